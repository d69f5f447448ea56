/** Every call with every mix of ordinary and far-off arguments answers, and refused ones change nothing. */
public final class FarTest {
    private static final int[] VALUES = {Integer.MIN_VALUE, Integer.MIN_VALUE + 1, -256, -2, -1, 0, 1, 2, 3, 4, 5,
        6, 7, 8, 9, 10, 18, 19, 31, 32, 33, 63, 64, 127, 128, 255, 256, 9999, 65536, 1 << 30, Integer.MAX_VALUE};
    private static final Due due = new Due("far");

    public static void main(String[] args) {
        for (String text : new String[] {"", "123", "123;456;127;167;234;567"}) {
            for (int first : VALUES) {
                one(text, first);
                for (int second : VALUES) {
                    two(text, first, second);
                }
            }
        }
        due.close();
    }

    private static TicketWheel with(String text) {
        TicketWheel x = new TicketWheel();
        for (int i = 0; i < text.length(); i++) {
            x.say(text.charAt(i));
        }
        x.tickets();
        x.say('1');
        x.prize(1, 5);
        x.seen(0, 1, 1);
        return x;
    }

    /** What can be seen of an object without changing it, in one number. */
    private static long look(TicketWheel x) {
        long sum = 0;
        for (int what = 0; what <= 18; what++) {
            sum = sum * 31 + x.told(what);
        }
        for (int ticket = 0; ticket < 6; ticket++) {
            sum = sum * 31 + x.ticket(ticket);
        }
        sum = sum * 31 + x.won(0) + 7L * x.fits(-1) + 11L * x.mean(0) + 13L * x.more(0);
        return sum;
    }

    private static void same(String call, TicketWheel x, long before, long answer, boolean changes) {
        if (answer < 0 || !changes) {
            due.equal(call + " changed nothing", look(x), before);
        }
    }

    private static void one(String text, int a) {
        TicketWheel x = with(text);
        long before = look(x);
        String told = " " + a + " of " + text;
        same("ticket" + told, x, before, x.ticket(a), false);
        same("won" + told, x, before, x.won(a), false);
        same("odds" + told, x, before, x.odds(a), false);
        same("often" + told, x, before, x.often(a), false);
        same("mean" + told, x, before, x.mean(a), false);
        same("sure" + told, x, before, x.sure(a), false);
        same("more" + told, x, before, x.more(a), false);
        same("changed" + told, x, before, x.changed(a), false);
        same("fits" + told, x, before, x.fits(a), false);
        same("surely" + told, x, before, x.surely(a), false);
        same("told" + told, x, before, x.told(a), false);
        same("image" + told, x, before, x.image(a), false);
        same("restore" + told, x, before, x.restore(a), false);
        same("say" + told, x, before, x.say(a), true);
        TicketWheel y = with(text);
        same("fond" + told, y, before, y.fond(a), true);
    }

    private static void two(String text, int a, int b) {
        TicketWheel x = with(text);
        long before = look(x);
        String told = " " + a + " " + b + " of " + text;
        same("right" + told, x, before, x.right(a, b), false);
        same("most" + told, x, before, x.most(a, b), false);
        same("alone" + told, x, before, x.alone(a, b), false);
        same("year" + told, x, before, x.year(a, b, 0) + x.year(a, 7, b) + x.year(5, a, b), false);
        TicketWheel y = with(text);
        same("prize" + told, y, before, y.prize(a, b), true);
        TicketWheel z = with(text);
        same("seen" + told, z, before, z.seen(a, b, 0), true);
        TicketWheel s = with(text);
        same("seen how" + told, s, before, s.seen(0, a, b), true);
        games(text, before, a, b);
    }

    private static void games(String text, long before, int a, int b) {
        TicketWheel x = with(text);
        same("game n t " + a + " " + b, x, before, x.game(a, b, 3, 2), true);
        TicketWheel y = with(text);
        same("game d r " + a + " " + b, y, before, y.game(7, 3, a, b), true);
        TicketWheel z = with(text);
        same("game t r " + a + " " + b, z, before, z.game(8, a, 4, b), true);
    }
}
