/** For each promise: ordinary inputs, the edges that the document names, and wrong inputs. */
public final class PromiseTest {
    private static final int UNKNOWN = -1, OUTSIDE = -2, STATE = -3, FULL = -4, NO = -5, NONE = -6;
    private static final long GONE_OUTSIDE = -1000000000000000002L;
    private static final int LEAST = Integer.MIN_VALUE;
    private static final int GREATEST = Integer.MAX_VALUE;

    private static final Due due = new Due("promises");

    public static void main(String[] args) {
        constants();
        promise1NewObject();
        promise2Game();
        promise3Say();
        promise4Wipe();
        promise5Fault();
        promise6Tickets();
        promise7Ticket();
        promise8Fond();
        promise9Right();
        promise10Won();
        promise11Odds();
        promise12Useless();
        promise13Often();
        promise14Prize();
        promise15Mean();
        promise16Most();
        promise17Sure();
        promise18Bound();
        promise19More();
        promise20Changed();
        promise21Seen();
        promise22Forget();
        promise23Fits();
        promise24Surely();
        promise25Alone();
        promise26Year();
        promise27Image();
        promise28Restore();
        promise29Told();
        due.close();
    }

    private static void write(TicketWheel x, String text) {
        x.wipe();
        for (int i = 0; i < text.length(); i++) {
            x.say(text.charAt(i));
        }
    }

    private static TicketWheel with(String text) {
        TicketWheel x = new TicketWheel();
        write(x, text);
        x.tickets();
        return x;
    }

    private static TicketWheel of(int n, int t, int d, int r, String text) {
        TicketWheel x = new TicketWheel();
        x.game(n, t, d, r);
        write(x, text);
        x.tickets();
        return x;
    }

    private static int faultOf(TicketWheel x, String text) {
        write(x, text);
        return x.fault();
    }

    private static void constants() {
        due.equal("UNKNOWN", TicketWheel.UNKNOWN, -1);
        due.equal("OUTSIDE", TicketWheel.OUTSIDE, -2);
        due.equal("STATE", TicketWheel.STATE, -3);
        due.equal("FULL", TicketWheel.FULL, -4);
        due.equal("NO", TicketWheel.NO, -5);
        due.equal("NONE", TicketWheel.NONE, -6);
        due.equal("GONE", TicketWheel.GONE, -1000000000000000000L);
    }

    private static void promise1NewObject() {
        TicketWheel x = new TicketWheel();
        int[] want = {0, 7, 3, 3, 2, 0, 0, 0};
        for (int what = 0; what < want.length; what++) {
            due.equal("1 told " + what, x.told(what), want[what]);
        }
        for (int k = 0; k <= 8; k++) {
            due.equal("1 prize " + k, x.told(10 + k), 0);
        }
        due.equal("1 draws", x.won(1), 35);
        due.equal("1 image 0", x.restore(0), STATE);
        due.equal("1 image 1", x.restore(1), STATE);
    }

    private static void promise2Game() {
        int[] draws = {3, 6, 4, 10, 10, 5};
        int[][] games = {{3, 2, 2, 1}, {4, 2, 2, 2}, {4, 2, 3, 1}, {5, 2, 2, 1}, {5, 4, 3, 3}, {5, 4, 4, 4}};
        TicketWheel x = new TicketWheel();
        for (int i = 0; i < draws.length; i++) {
            int[] g = games[i];
            due.equal("2 game " + i, x.game(g[0], g[1], g[2], g[3]), draws[i]);
            for (int told = 1; told <= 4; told++) {
                due.equal("2 game " + i + " told " + told, x.told(told), g[told - 1]);
            }
        }
        due.equal("2 seventy", x.game(8, 7, 4, 4), 70);
        due.equal("2 n 2", x.game(2, 2, 2, 1), OUTSIDE);
        due.equal("2 n 9", x.game(9, 3, 3, 2), OUTSIDE);
        due.equal("2 t 1", x.game(7, 1, 3, 1), OUTSIDE);
        due.equal("2 t 7", x.game(7, 7, 3, 1), OUTSIDE);
        due.equal("2 d 1", x.game(7, 3, 1, 1), OUTSIDE);
        due.equal("2 d 7", x.game(7, 3, 7, 1), OUTSIDE);
        due.equal("2 r 0", x.game(7, 3, 3, 0), OUTSIDE);
        due.equal("2 r above t", x.game(7, 3, 4, 4), OUTSIDE);
        due.equal("2 r above d", x.game(7, 4, 3, 4), OUTSIDE);
        due.equal("2 n least", x.game(LEAST, LEAST, LEAST, LEAST), OUTSIDE);
        due.equal("2 n greatest", x.game(GREATEST, GREATEST, GREATEST, GREATEST), OUTSIDE);
        due.equal("2 refused n", x.told(1), 8);
        due.equal("2 refused t", x.told(2), 7);

        TicketWheel y = with("123;456");
        y.fond(3);
        y.seen(0, 2, 0);
        y.prize(2, 50);
        y.say('1');
        due.equal("2 refused", y.game(7, 3, 3, 4), OUTSIDE);
        due.equal("2 refused tickets", y.told(5), 2);
        due.equal("2 refused fond", y.told(6), 3);
        due.equal("2 refused sights", y.told(7), 1);
        due.equal("2 same game", y.game(7, 3, 3, 2), 35);
        due.equal("2 tickets go", y.told(5), 0);
        due.equal("2 fond goes", y.told(6), 0);
        due.equal("2 sights go", y.told(7), 0);
        due.equal("2 prizes stay", y.told(12), 50);
        due.equal("2 signs stay", y.told(0), 1);
        due.equal("2 none won", y.won(0), 0);
        due.equal("2 fond forgotten", y.more(0), 7);
    }

    private static void promise3Say() {
        TicketWheel x = new TicketWheel();
        due.equal("3 least", x.say(33), 1);
        due.equal("3 greatest", x.say(126), 2);
        due.equal("3 below", x.say(32), OUTSIDE);
        due.equal("3 above", x.say(127), OUTSIDE);
        due.equal("3 far below", x.say(LEAST), OUTSIDE);
        due.equal("3 far above", x.say(GREATEST), OUTSIDE);
        for (int signs = 3; signs <= 60; signs++) {
            due.equal("3 sign " + signs, x.say('1'), signs);
        }
        due.equal("3 full", x.say('1'), FULL);
        due.equal("3 outside and full", x.say(127), OUTSIDE);
        due.equal("3 told", x.told(0), 60);
        due.equal("3 wiped", x.wipe(), 60);
        due.equal("3 again", x.say('1'), 1);
    }

    private static void promise4Wipe() {
        TicketWheel x = with("123");
        due.equal("4 none", x.wipe(), 0);
        write(x, "12!");
        due.equal("4 three", x.wipe(), 3);
        due.equal("4 gone", x.wipe(), 0);
        due.equal("4 told", x.told(0), 0);
        due.equal("4 tickets stay", x.told(5), 1);
    }

    private static void promise5Fault() {
        TicketWheel x = new TicketWheel();
        due.equal("5 no signs", x.fault(), NONE);
        String[] texts = {"123", "567", "123;456;123;456;123;456", "1", "12", "123;", "123;4", "67", "7",
            "0", "8", "1234", "12;", "11", "121", "21", ";", "123;;", "123;321", "12a", "1!",
            "~", "123;456;123;456;123;456;", "123;456;123;456;123;4567", "123,456", "12:", "12/", "123;129"};
        int[] want = {NONE, NONE, NONE, 1, 2, 4, 5, 2, 1,
            0, 0, 3, 2, 1, 2, 1, 0, 4, 5, 2, 1,
            0, 23, 23, 3, 2, 2, 6};
        for (int i = 0; i < texts.length; i++) {
            due.equal("5 fault of " + texts[i], faultOf(x, texts[i]), want[i]);
            due.equal("5 signs stay of " + texts[i], x.told(0), texts[i].length());
        }
        TicketWheel y = new TicketWheel();
        y.game(8, 7, 7, 7);
        due.equal("5 eight", faultOf(y, "1234568;2345678"), NONE);
        due.equal("5 nine", faultOf(y, "1234569"), 6);
        due.equal("5 six long", faultOf(y, "1234567;1234567;1234567;1234567;1234567;1234567"), NONE);
        y.game(3, 2, 2, 1);
        due.equal("5 of three", faultOf(y, "23;14"), 4);
        write(y, "124");
        due.equal("5 of the game there is", y.fault(), 2);
        y.game(4, 3, 2, 1);
        due.equal("5 of the next game", y.fault(), NONE);
    }

    private static void promise6Tickets() {
        TicketWheel x = new TicketWheel();
        due.equal("6 none", x.tickets(), 0);
        write(x, "123;145");
        due.equal("6 two", x.tickets(), 2);
        due.equal("6 empty then", x.told(0), 0);
        due.equal("6 told", x.told(5), 2);
        due.equal("6 first", x.ticket(0), 7);
        due.equal("6 second", x.ticket(1), 25);
        x.seen(0, 1, 0);
        x.fond(9);
        x.prize(1, 8);
        write(x, "123;14");
        due.equal("6 fault", x.tickets(), NO);
        due.equal("6 fault keeps signs", x.told(0), 6);
        due.equal("6 fault keeps tickets", x.told(5), 2);
        due.equal("6 fault keeps sights", x.told(7), 1);
        x.say('7');
        due.equal("6 same many", x.tickets(), 2);
        due.equal("6 sights go", x.told(7), 0);
        due.equal("6 fond stays", x.told(6), 9);
        due.equal("6 prizes stay", x.told(11), 8);
        due.equal("6 second now", x.ticket(1), 73);
        write(x, "123;123;123;123;123;567");
        due.equal("6 six", x.tickets(), 6);
        due.equal("6 sixth", x.ticket(5), 112);
        due.equal("6 won by them", x.won(0), 26);
        write(x, "123;345");
        x.tickets();
        write(x, "123");
        x.tickets();
        due.equal("6 fewer now: won", x.won(0), 13);
        due.equal("6 fewer now: often", x.often(5), 0);
        x.prize(0, 35);
        x.prize(1, 0);
        due.equal("6 fewer now: mean", x.mean(0), 4);
        // 75 * 8 + 74 left over by 35 is 9: the tenth draw, 28, which 345 would win.
        due.equal("6 fewer now: a year", x.year(8, 1, 0), 0);
        due.equal("6 fewer now: its pence", x.year(8, 99, 1), penceOfNoneRight(x, 8, 99));
        due.equal("6 none again", x.tickets(), 0);
        due.equal("6 none won", x.won(0), 0);
    }

    /** With 35 pence for none right and one ticket: the year that is told draw by draw. */
    private static int penceOfNoneRight(TicketWheel x, int seed, int m) {
        int lot = seed;
        int pence = 0;
        for (int i = 0; i < m; i++) {
            lot = (75 * lot + 74) % 65537;
            pence += x.right(0, x.fits(lot % 35)) == 0 ? 35 : 0;
        }
        return pence;
    }

    private static void promise7Ticket() {
        TicketWheel x = of(8, 2, 3, 1, "18;27");
        due.equal("7 first", x.ticket(0), 129);
        due.equal("7 second", x.ticket(1), 66);
        due.equal("7 third", x.ticket(2), UNKNOWN);
        due.equal("7 below", x.ticket(-1), UNKNOWN);
        due.equal("7 far below", x.ticket(LEAST), UNKNOWN);
        due.equal("7 far above", x.ticket(GREATEST), UNKNOWN);
        write(x, "12");
        x.tickets();
        due.equal("7 gone", x.ticket(1), UNKNOWN);
    }

    private static void promise8Fond() {
        TicketWheel x = new TicketWheel();
        due.equal("8 first", x.fond(65), 0);
        due.equal("8 all of a ticket", x.fond(112), 65);
        due.equal("8 too many", x.fond(15), OUTSIDE);
        due.equal("8 no number", x.fond(128), OUTSIDE);
        due.equal("8 negative", x.fond(-1), OUTSIDE);
        due.equal("8 far below", x.fond(LEAST), OUTSIDE);
        due.equal("8 far above", x.fond(1 << 30), OUTSIDE);
        due.equal("8 kept", x.told(6), 112);
        due.equal("8 the one that could be", x.more(0), 112);
        due.equal("8 none", x.fond(0), 112);
        due.equal("8 none now", x.told(6), 0);
        due.equal("8 any could be", x.more(0), 7);
        x.game(8, 2, 2, 1);
        due.equal("8 number 8", x.fond(128), 0);
        due.equal("8 three of two", x.fond(7), OUTSIDE);
        due.equal("8 with number 8", x.more(0), 129);
    }

    private static void promise9Right() {
        TicketWheel x = with("123;567");
        due.equal("9 none", x.right(0, 112), 0);
        due.equal("9 one", x.right(1, 67), 1);
        due.equal("9 all", x.right(1, 112), 3);
        due.equal("9 too many drawn", x.right(0, 15), OUTSIDE);
        due.equal("9 too few drawn", x.right(0, 3), OUTSIDE);
        due.equal("9 no number", x.right(0, 131), OUTSIDE);
        due.equal("9 negative", x.right(0, -1), OUTSIDE);
        due.equal("9 least", x.right(0, LEAST), OUTSIDE);
        due.equal("9 unknown", x.right(2, 7), UNKNOWN);
        due.equal("9 unknown first", x.right(2, 15), UNKNOWN);
        due.equal("9 below", x.right(-1, 7), UNKNOWN);
        TicketWheel y = of(8, 3, 5, 1, "128");
        due.equal("9 five drawn", y.right(0, 128 + 64 + 32 + 3), 3);
        due.equal("9 three drawn of five", y.right(0, 7), OUTSIDE);
    }

    private static void promise10Won() {
        TicketWheel x = new TicketWheel();
        due.equal("10 none", x.won(0), 0);
        due.equal("10 all", x.won(1), 35);
        due.equal("10 least missed", x.won(2), 7);
        write(x, "123");
        x.tickets();
        due.equal("10 one ticket", x.won(0), 13);
        due.equal("10 all still", x.won(1), 35);
        due.equal("10 missed by one", x.won(2), 25);
        due.equal("10 below", x.won(-1), OUTSIDE);
        due.equal("10 above", x.won(3), OUTSIDE);
        TicketWheel y = of(8, 4, 4, 2, "1234;5678");
        due.equal("10 seventy all won", y.won(0), 70);
        due.equal("10 none missed", y.won(2), NONE);
        TicketWheel u = of(8, 2, 4, 1, "12;36");
        due.equal("10 all but one of seventy", u.won(0), 69);
        due.equal("10 the 65th missed", u.won(2), 216);
        TicketWheel z = of(8, 4, 4, 4, "5678");
        due.equal("10 the last alone", z.won(0), 1);
        due.equal("10 the first missed", z.won(2), 15);
        TicketWheel v = of(4, 3, 3, 3, "123;124;134");
        due.equal("10 the last missed", v.won(2), 14);
    }

    private static void promise11Odds() {
        TicketWheel x = new TicketWheel();
        due.equal("11 none upper", x.odds(0), 0);
        due.equal("11 none lower", x.odds(1), 1);
        TicketWheel y = of(6, 3, 3, 2, "123");
        due.equal("11 half upper", y.odds(0), 1);
        due.equal("11 half lower", y.odds(1), 2);
        TicketWheel z = of(6, 3, 3, 2, "123;456");
        due.equal("11 whole upper", z.odds(0), 1);
        due.equal("11 whole lower", z.odds(1), 1);
        TicketWheel v = of(8, 4, 4, 3, "1234");
        due.equal("11 upper", v.odds(0), 17);
        due.equal("11 lower", v.odds(1), 70);
        TicketWheel w = of(8, 4, 4, 3, "1234;5678");
        due.equal("11 by two upper", w.odds(0), 17);
        due.equal("11 by two lower", w.odds(1), 35);
        due.equal("11 below", v.odds(-1), GONE_OUTSIDE);
        due.equal("11 above", v.odds(2), GONE_OUTSIDE);
        due.equal("11 far above", v.odds(GREATEST), GONE_OUTSIDE);
    }

    private static void promise12Useless() {
        due.equal("12 none", new TicketWheel().useless(), 0);
        due.equal("12 one", with("123").useless(), 0);
        due.equal("12 alike", with("123;123").useless(), 3);
        due.equal("12 alike and another", with("123;456;123").useless(), 5);
        due.equal("12 all won without any", of(4, 2, 2, 1, "12;34;13;24").useless(), 15);
        due.equal("12 last", of(4, 2, 3, 2, "12;34;13").useless(), 4);
    }

    private static void promise13Often() {
        TicketWheel x = with("123;127;147");
        int[] want = {3, 2, 1, 1, 0, 0, 2};
        for (int number = 1; number <= 7; number++) {
            due.equal("13 number " + number, x.often(number), want[number - 1]);
        }
        due.equal("13 zero", x.often(0), UNKNOWN);
        due.equal("13 eight", x.often(8), UNKNOWN);
        due.equal("13 least", x.often(LEAST), UNKNOWN);
        due.equal("13 greatest", x.often(GREATEST), UNKNOWN);
        due.equal("13 eight of eight", of(8, 2, 2, 1, "18;18;18;18;18;18").often(8), 6);
    }

    private static void promise14Prize() {
        TicketWheel x = with("123");
        due.equal("14 first", x.prize(3, 999), 0);
        due.equal("14 again", x.prize(3, 0), 999);
        due.equal("14 least k", x.prize(0, 1), 0);
        due.equal("14 greatest k", x.prize(8, 2), 0);
        due.equal("14 k below", x.prize(-1, 0), OUTSIDE);
        due.equal("14 k above", x.prize(9, 0), OUTSIDE);
        due.equal("14 pence below", x.prize(3, -1), OUTSIDE);
        due.equal("14 pence above", x.prize(3, 1000), OUTSIDE);
        due.equal("14 told 0", x.told(10), 1);
        due.equal("14 told 3", x.told(13), 0);
        due.equal("14 told 8", x.told(18), 2);
    }

    private static void promise15Mean() {
        TicketWheel x = new TicketWheel();
        x.prize(0, 999);
        due.equal("15 no tickets upper", x.mean(0), 0);
        due.equal("15 no tickets lower", x.mean(1), 1);
        TicketWheel y = with("123;123");
        y.prize(3, 35);
        due.equal("15 alike count twice", y.mean(0), 2);
        due.equal("15 whole", y.mean(1), 1);
        y.prize(0, 7);
        due.equal("15 none right upper", y.mean(0), 18);
        due.equal("15 none right lower", y.mean(1), 5);
        due.equal("15 below", y.mean(-1), GONE_OUTSIDE);
        due.equal("15 above", y.mean(2), GONE_OUTSIDE);
        TicketWheel z = of(8, 4, 4, 1, "1234;1234;1234;1234;1234;1234");
        for (int k = 0; k <= 8; k++) {
            z.prize(k, 999);
        }
        due.equal("15 most", z.mean(0), 5994);
        due.equal("15 most lower", z.mean(1), 1);
        due.equal("15 a prize below r counts", prizeBelowR().mean(0), 18);
        due.equal("15 a prize below r, lower", prizeBelowR().mean(1), 35);
    }

    private static TicketWheel prizeBelowR() {
        TicketWheel x = with("123");
        x.prize(1, 1);
        return x;
    }

    private static void promise16Most() {
        TicketWheel x = with("123;124");
        due.equal("16 one won", x.most(1, -1), 13);
        due.equal("16 those there are don't count", x.most(1, 0), 7);
        due.equal("16 two won", x.most(2, -1), 26);
        due.equal("16 two second", x.most(2, 1), 56);
        due.equal("16 no third", x.most(2, 2), NONE);
        due.equal("16 i below", x.most(2, -2), NONE);
        due.equal("16 i least", x.most(3, LEAST), NONE);
        due.equal("16 i greatest", x.most(3, GREATEST), NONE);
        due.equal("16 k 0", x.most(0, -1), OUTSIDE);
        due.equal("16 k 4", x.most(4, 99), OUTSIDE);
        due.equal("16 three won", x.most(3, -1), 32);
        due.equal("16 three third", x.most(3, 2), 112);
        x.fond(3);
        due.equal("16 fond won", x.most(2, -1), 19);
        due.equal("16 fond first", x.most(2, 0), 7);
        due.equal("16 fond second", x.most(2, 1), 11);
        x.fond(7);
        due.equal("16 one could be", x.most(1, 0), 7);
        due.equal("16 not so many", x.most(2, -1), NONE);
        due.equal("16 not three", x.most(3, 0), NONE);
        x.game(3, 2, 2, 1);
        due.equal("16 all won by one", x.most(1, -1), 3);
        due.equal("16 still three", x.most(3, 2), 6);
        x.fond(1);
        due.equal("16 two could be", x.most(2, 1), 5);
        due.equal("16 not three of two", x.most(3, -1), NONE);
    }

    private static void promise17Sure() {
        TicketWheel x = with("123;124");
        due.equal("17 four", x.sure(-1), 4);
        int[] want = {7, 11, 13, 112};
        for (int i = 0; i < 4; i++) {
            due.equal("17 ticket " + i, x.sure(i), want[i]);
        }
        due.equal("17 no fifth", x.sure(4), NONE);
        due.equal("17 i below", x.sure(-2), NONE);
        due.equal("17 i least", x.sure(LEAST), NONE);
        due.equal("17 i greatest", x.sure(GREATEST), NONE);
        x.fond(1);
        due.equal("17 not with fond", x.sure(-1), NONE);
        due.equal("17 no ticket with fond", x.sure(0), NONE);
        x.fond(0);
        due.equal("17 four again", x.sure(-1), 4);
        x.game(8, 7, 7, 6);
        due.equal("17 one", x.sure(-1), 1);
        due.equal("17 the least", x.sure(0), 127);
        due.equal("17 no second", x.sure(1), NONE);
        x.game(8, 3, 3, 2);
        due.equal("17 five would be needed", x.sure(-1), NONE);
        x.game(5, 4, 4, 4);
        due.equal("17 five would be needed of five", x.sure(-1), NONE);
        x.game(4, 3, 3, 3);
        due.equal("17 all four that could be", x.sure(3), 14);
    }

    private static void promise18Bound() {
        TicketWheel x = new TicketWheel();
        due.equal("18 cut up", x.bound(), 3);
        x.fond(7);
        due.equal("18 fond is no matter", x.bound(), 3);
        x.game(6, 3, 3, 2);
        due.equal("18 even", x.bound(), 2);
        x.game(8, 4, 4, 4);
        due.equal("18 one of seventy", x.bound(), 70);
        x.game(8, 7, 7, 1);
        due.equal("18 one is enough", x.bound(), 1);
    }

    private static void promise19More() {
        TicketWheel x = new TicketWheel();
        due.equal("19 of none", x.more(0), 7);
        due.equal("19 won then", x.more(1), 13);
        write(x, "123");
        x.tickets();
        due.equal("19 a second", x.more(0), 56);
        due.equal("19 won by two", x.more(1), 26);
        x.fond(2);
        due.equal("19 with fond", x.more(0), 26);
        due.equal("19 won with fond", x.more(1), 22);
        due.equal("19 below", x.more(-1), OUTSIDE);
        due.equal("19 above", x.more(2), OUTSIDE);
        due.equal("19 nothing is added", x.told(5), 1);
        TicketWheel y = of(4, 2, 2, 1, "12;34;12;34;12;34");
        due.equal("19 all won, six there", y.more(0), 3);
        due.equal("19 all won still", y.more(1), 6);
    }

    private static void promise20Changed() {
        TicketWheel x = new TicketWheel();
        due.equal("20 none", x.changed(0), STATE);
        due.equal("20 outside first", x.changed(3), OUTSIDE);
        write(x, "123;124;567");
        x.tickets();
        due.equal("20 first of several", x.changed(0), 0);
        due.equal("20 for itself, which can't be bettered", x.changed(1), 7);
        due.equal("20 won then", x.changed(2), 32);
        due.equal("20 nothing changes", x.ticket(0), 7);
        due.equal("20 below", x.changed(-1), OUTSIDE);
        due.equal("20 above", x.changed(3), OUTSIDE);
        TicketWheel v = with("123;145");
        due.equal("20 first of two", v.changed(0), 0);
        due.equal("20 for the least of several", v.changed(1), 38);
        due.equal("20 won by two", v.changed(2), 26);
        TicketWheel y = of(4, 2, 2, 1, "34;12;12");
        due.equal("20 all won: the first", y.changed(0), 0);
        due.equal("20 all won: for the least", y.changed(1), 5);
        due.equal("20 all won", y.changed(2), 6);
        TicketWheel z = with("123;567;567");
        due.equal("20 a later ticket", z.changed(0), 1);
        due.equal("20 a later one for", z.changed(1), 11);
        z.fond(7);
        due.equal("20 the one that could be", z.changed(1), 7);
        due.equal("20 won with it", z.changed(2), 26);
        due.equal("20 for itself", z.changed(0), 0);
    }

    private static void promise21Seen() {
        TicketWheel x = with("123;145");
        due.equal("21 first", x.seen(0, 0, 0), 1);
        due.equal("21 greatest k", x.seen(1, 8, 2), 2);
        due.equal("21 unknown", x.seen(2, 0, 0), UNKNOWN);
        due.equal("21 unknown below", x.seen(-1, 0, 0), UNKNOWN);
        due.equal("21 unknown first", x.seen(2, 9, 9), UNKNOWN);
        due.equal("21 k below", x.seen(0, -1, 0), OUTSIDE);
        due.equal("21 k above", x.seen(0, 9, 0), OUTSIDE);
        due.equal("21 how below", x.seen(0, 0, -1), OUTSIDE);
        due.equal("21 how above", x.seen(0, 0, 3), OUTSIDE);
        for (int sights = 3; sights <= 6; sights++) {
            due.equal("21 sight " + sights, x.seen(0, 1, 1), sights);
        }
        due.equal("21 full", x.seen(0, 0, 0), FULL);
        due.equal("21 outside and full", x.seen(0, 9, 0), OUTSIDE);
        due.equal("21 unknown and full", x.seen(2, 0, 0), UNKNOWN);
        due.equal("21 told", x.told(7), 6);
    }

    private static void promise22Forget() {
        TicketWheel x = with("123");
        due.equal("22 none", x.forget(), 0);
        x.seen(0, 3, 0);
        x.seen(0, 3, 1);
        due.equal("22 one draw", x.fits(-1), 1);
        due.equal("22 two", x.forget(), 2);
        due.equal("22 none again", x.forget(), 0);
        due.equal("22 all fit", x.fits(-1), 35);
        due.equal("22 tickets stay", x.told(5), 1);
    }

    private static void promise23Fits() {
        TicketWheel x = with("123;345");
        due.equal("23 all", x.fits(-1), 35);
        due.equal("23 first", x.fits(0), 7);
        due.equal("23 last", x.fits(34), 112);
        due.equal("23 past", x.fits(35), NONE);
        due.equal("23 below", x.fits(-2), NONE);
        due.equal("23 least", x.fits(LEAST), NONE);
        due.equal("23 greatest", x.fits(GREATEST), NONE);
        x.seen(0, 2, 0);
        due.equal("23 so many", x.fits(-1), 12);
        x.seen(1, 1, 1);
        due.equal("23 or more", x.fits(-1), 10);
        due.equal("23 first of them", x.fits(0), 11);
        x.seen(1, 2, 2);
        due.equal("23 fewer", x.fits(-1), 6);
        due.equal("23 the sixth", x.fits(5), 70);
        due.equal("23 no seventh", x.fits(6), NONE);
        x.seen(0, 0, 2);
        due.equal("23 fewer than none", x.fits(-1), 0);
        due.equal("23 none of none", x.fits(0), NONE);
    }

    private static void promise24Surely() {
        TicketWheel x = with("123;345");
        due.equal("24 drawn", x.surely(0), 0);
        due.equal("24 not drawn", x.surely(1), 0);
        x.seen(0, 2, 0);
        x.seen(1, 2, 0);
        due.equal("24 surely", x.surely(0), 4);
        due.equal("24 surely not", x.surely(1), 96);
        due.equal("24 below", x.surely(-1), OUTSIDE);
        due.equal("24 above", x.surely(2), OUTSIDE);
        x.seen(0, 3, 0);
        due.equal("24 no draw fits", x.surely(0), NO);
        due.equal("24 no draw fits 1", x.surely(1), NO);
        due.equal("24 outside first", x.surely(2), OUTSIDE);
        TicketWheel z = with("123");
        z.seen(0, 3, 0);
        due.equal("24 the first draw alone", z.surely(0), 7);
        // 124 and 234 fit; of the 35 draws of the game ahead the next one, 125, would fit as well.
        z.game(4, 2, 3, 1);
        write(z, "13");
        z.tickets();
        z.seen(0, 1, 0);
        due.equal("24 of a smaller game", z.surely(0), 10);
        due.equal("24 not of a smaller game", z.surely(1), 0);
        TicketWheel y = of(8, 4, 4, 4, "5678");
        y.seen(0, 4, 1);
        due.equal("24 one draw", y.surely(0), 240);
        due.equal("24 its others", y.surely(1), 15);
    }

    private static void promise25Alone() {
        TicketWheel x = with("123;145;567");
        due.equal("25 first alone", x.alone(1, 6), 9);
        due.equal("25 none has any", x.alone(0, 0), 0);
        due.equal("25 second has none", x.alone(1, 0), 13);
        due.equal("25 first has none", x.alone(0, 7), 0);
        due.equal("25 both have it", x.alone(5, 5), 0);
        due.equal("25 two to one", x.alone(6, 1), 18);
        due.equal("25 all", x.alone(7, 0), x.won(0));
        due.equal("25 first outside", x.alone(8, 0), OUTSIDE);
        due.equal("25 second outside", x.alone(0, 8), OUTSIDE);
        due.equal("25 negative", x.alone(-1, 0), OUTSIDE);
        due.equal("25 least", x.alone(0, LEAST), OUTSIDE);
    }

    private static void promise26Year() {
        TicketWheel x = with("123;145");
        x.prize(2, 70);
        x.prize(3, 100);
        due.equal("26 won", x.year(5, 20, 0), 10);
        due.equal("26 pence", x.year(5, 20, 1), 770);
        due.equal("26 least", x.year(0, 1, 0), 1);
        due.equal("26 greatest", x.year(9999, 99, 0), 64);
        due.equal("26 same again", x.year(5, 20, 0), 10);
        due.equal("26 seed below", x.year(-1, 1, 0), OUTSIDE);
        due.equal("26 seed above", x.year(10000, 1, 0), OUTSIDE);
        due.equal("26 m below", x.year(0, 0, 0), OUTSIDE);
        due.equal("26 m above", x.year(0, 100, 0), OUTSIDE);
        due.equal("26 what below", x.year(0, 1, -1), OUTSIDE);
        due.equal("26 what above", x.year(0, 1, 2), OUTSIDE);
        // 74 left over by 35 is 4: the fifth draw, 19, has 1 and 2 of the first ticket, 1 and 5 of the second.
        due.equal("26 both bring pence", x.year(0, 1, 1), 140);
    }

    private static void promise27Image() {
        TicketWheel x = with("123");
        due.equal("27 zero", x.image(0), 1);
        due.equal("27 again", x.image(0), 1);
        due.equal("27 one", x.image(1), 1);
        due.equal("27 below", x.image(-1), OUTSIDE);
        due.equal("27 above", x.image(2), OUTSIDE);
        due.equal("27 greatest", x.image(GREATEST), OUTSIDE);
        due.equal("27 nothing changes", x.ticket(0), 7);
        x.game(4, 2, 2, 1);
        x.image(0);
        x.game(5, 2, 2, 1);
        x.restore(1);
        due.equal("27 one is its own", x.told(1), 7);
        x.restore(0);
        due.equal("27 zero was kept anew", x.told(1), 4);
    }

    private static void promise28Restore() {
        TicketWheel x = of(6, 3, 4, 2, "123;456");
        x.fond(5);
        x.prize(8, 11);
        x.seen(1, 2, 1);
        due.equal("28 not kept", x.restore(1), STATE);
        due.equal("28 below", x.restore(-1), OUTSIDE);
        due.equal("28 above", x.restore(2), OUTSIDE);
        x.image(1);
        due.equal("28 the other not kept", x.restore(0), STATE);
        int fitting = x.fits(-1);
        long sights = sightsOf(x);
        int best = x.most(2, 1);
        int useless = x.useless();
        x.game(5, 2, 2, 1);
        x.prize(8, 12);
        write(x, "12;23;34");
        x.tickets();
        x.seen(0, 0, 0);
        x.seen(2, 1, 2);
        x.say('7');
        x.most(2, 1);
        due.equal("28 restored", x.restore(1), 1);
        int[] want = {1, 6, 3, 4, 2, 2, 5, 1};
        for (int what = 0; what < want.length; what++) {
            due.equal("28 told " + what, x.told(what), want[what]);
        }
        due.equal("28 prize", x.told(18), 11);
        due.equal("28 tickets", x.ticket(1), 56);
        due.equal("28 sights", x.fits(-1), fitting);
        due.equal("28 kind of sights", sightsOf(x), sights);
        due.equal("28 most", x.most(2, 1), best);
        due.equal("28 useless", x.useless(), useless);
        due.equal("28 draws", x.won(1), 15);
        x.game(3, 2, 2, 1);
        due.equal("28 once more", x.restore(1), 1);
        due.equal("28 still kept", x.told(1), 6);
        due.equal("28 fond works", x.more(0) & 5, 5);
        TicketWheel y = new TicketWheel();
        y.fond(7);
        y.image(0);
        y.game(8, 4, 4, 4);
        y.restore(0);
        due.equal("28 bound", y.bound(), 3);
        due.equal("28 one could be", y.most(2, -1), NONE);
    }

    private static long sightsOf(TicketWheel x) {
        long sum = 0;
        for (int i = 0; i < x.fits(-1); i++) {
            sum = sum * 31 + x.fits(i);
        }
        return sum;
    }

    private static void promise29Told() {
        TicketWheel x = of(8, 5, 6, 4, "12345;45678");
        x.say('1');
        x.fond(17);
        x.seen(0, 1, 1);
        int[] want = {1, 8, 5, 6, 4, 2, 17, 1, OUTSIDE, OUTSIDE};
        for (int what = 0; what < want.length; what++) {
            due.equal("29 told " + what, x.told(what), want[what]);
        }
        for (int k = 0; k <= 8; k++) {
            x.prize(k, 100 + k);
        }
        for (int k = 0; k <= 8; k++) {
            due.equal("29 prize " + k, x.told(10 + k), 100 + k);
        }
        due.equal("29 above", x.told(19), OUTSIDE);
        due.equal("29 below", x.told(-1), OUTSIDE);
        due.equal("29 least", x.told(LEAST), OUTSIDE);
        due.equal("29 greatest", x.told(GREATEST), OUTSIDE);
    }
}
