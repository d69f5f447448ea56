import java.util.ArrayList;
import java.util.List;

/** Objects in told states, and all that can be seen of one. */
enum Scene {
    /** A new object. */
    FRESH(7, 3, 3, 2, 0, 0),
    /** The smallest game; its pad holds tickets without a fault. */
    SMALL(3, 2, 2, 1, 1, 1),
    /** Some of everything; the text on its pad is unfinished, and only image 0 is kept. */
    SOME(6, 3, 4, 2, 2, 1),
    /** As much of everything as there can be. */
    BRIM(8, 4, 5, 3, 6, 6);

    final int n;
    final int t;
    final int d;
    final int r;
    final int tickets;
    final int sights;

    Scene(int n, int t, int d, int r, int tickets, int sights) {
        this.n = n;
        this.t = t;
        this.d = d;
        this.r = r;
        this.tickets = tickets;
        this.sights = sights;
    }

    TicketWheel make() {
        TicketWheel x = new TicketWheel();
        switch (this) {
            case SMALL -> {
                begin(x, "12");
                x.seen(0, 1, 0);
                write(x, "12;23");
            }
            case SOME -> {
                keepAnother(x, 0);
                begin(x, "123;345");
                x.fond(1);
                x.prize(2, 70);
                x.prize(4, 999);
                x.seen(0, 2, 1);
                write(x, "12");
            }
            case BRIM -> {
                keepAnother(x, 0);
                begin(x, "1234;1256;3478;2367;1458;5678");
                x.image(1);
                x.fond(128 + 16 + 2 + 1);
                for (int k = 0; k <= 8; k++) {
                    x.prize(k, 991 + k);
                }
                int[][] sights = {{0, 2, 1}, {1, 2, 1}, {2, 2, 0}, {3, 1, 1}, {4, 8, 2}, {5, 0, 1}};
                for (int[] sight : sights) {
                    x.seen(sight[0], sight[1], sight[2]);
                }
                write(x, "1234;1235;1236;1237;1238;4567" + "~".repeat(31));
            }
            default -> { }
        }
        return x;
    }

    private void begin(TicketWheel x, String text) {
        x.game(n, t, d, r);
        write(x, text);
        x.tickets();
    }

    private static void keepAnother(TicketWheel x, int image) {
        x.game(5, 2, 3, 2);
        write(x, "15;24;45");
        x.tickets();
        x.fond(2);
        x.prize(1, 5);
        x.seen(2, 1, 0);
        x.image(image);
    }

    static void write(TicketWheel x, String text) {
        for (int i = 0; i < text.length(); i++) {
            x.say(text.charAt(i));
        }
    }

    /** Writes on a wiped pad and makes the text tickets. */
    static void hold(TicketWheel x, String text) {
        x.wipe();
        write(x, text);
        x.tickets();
    }

    /** The answers of all calls that show the state, one a line. The object is used up by it. */
    static List<String> look(TicketWheel x) {
        List<String> lines = new ArrayList<>();
        lookAtPlay(x, "", lines);
        tell(lines, "fault", x.fault());
        tell(lines, "signs", x.told(0));
        tell(lines, "pad as tickets", x.tickets());
        lookAtTickets(x, "pad as ", lines);
        tell(lines, "wiped", x.wipe());
        for (int image = 0; image <= 1; image++) {
            tell(lines, "restore " + image, x.restore(image));
            lookAtPlay(x, "image " + image + " ", lines);
        }
        return lines;
    }

    private static void tell(List<String> lines, String call, long answer) {
        lines.add(call + " = " + answer);
    }

    private static void lookAtTickets(TicketWheel x, String where, List<String> lines) {
        for (int ticket = 0; ticket <= 6; ticket++) {
            tell(lines, where + "ticket " + ticket, x.ticket(ticket));
        }
    }

    private static void lookAtPlay(TicketWheel x, String where, List<String> lines) {
        for (int what = 1; what <= 18; what++) {
            tell(lines, where + "told " + what, x.told(what));
        }
        lookAtTickets(x, where, lines);
        for (int i = -1; i <= Math.min(x.fits(-1), 12); i++) {
            tell(lines, where + "fits " + i, x.fits(i));
        }
        for (int what = 0; what <= 2; what++) {
            tell(lines, where + "won " + what, x.won(what));
            tell(lines, where + "changed " + what, x.changed(what));
            tell(lines, where + "most " + what, x.most(2, what - 1));
        }
        for (int what = 0; what <= 1; what++) {
            tell(lines, where + "odds " + what, x.odds(what));
            tell(lines, where + "mean " + what, x.mean(what));
            tell(lines, where + "more " + what, x.more(what));
            tell(lines, where + "surely " + what, x.surely(what));
            tell(lines, where + "year " + what, x.year(1234, 50, what));
            tell(lines, where + "sure " + what, x.sure(what - 1));
        }
        tell(lines, where + "useless", x.useless());
        tell(lines, where + "bound", x.bound());
        tell(lines, where + "often 1", x.often(1));
        tell(lines, where + "right 0", x.right(0, x.fits(0)));
        tell(lines, where + "alone 1 2", x.alone(1, 2));
    }
}
