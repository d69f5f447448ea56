/** The bounds that promises 9 to 15 and the terms of what is won name. */
public final class WonBoundsTest {
    private static final int UNKNOWN = Bounds.UNKNOWN, OUTSIDE = Bounds.OUTSIDE, NONE = Bounds.NONE;
    private static final int LEAST = Bounds.LEAST, GREATEST = Bounds.GREATEST;
    private static final long GONE_OUTSIDE = Bounds.GONE_OUTSIDE;

    private static final Due due = new Due("bounds of what is won");
    private static final Bounds bounds = new Bounds(due);

    public static void main(String[] args) {
        promise9EverySet();
        promise9Refused();
        promise10What();
        promise10NoTickets();
        promise10NoneMissed();
        promise10JustRight();
        promise11Part();
        promise11LowestTerms();
        promise12FromNoneToAll();
        promise13EveryNumber();
        promise13Refused();
        promise14Bounds();
        promise14Refused();
        promise15Part();
        promise15NothingToAll();
        promise15EachRight();
        due.close();
    }

    private static TicketWheel of(int n, int t, int d, int r, String text) {
        TicketWheel x = new TicketWheel();
        x.game(n, t, d, r);
        Scene.hold(x, text);
        return x;
    }

    /** "OUTSIDE: it is no DRAW": each set of bits, with the first ticket and the last. */
    private static void promise9EverySet() {
        for (Scene scene : Scene.values()) {
            TicketWheel x = scene.make();
            for (int set = -2; set <= 2 << scene.n; set++) {
                if (set % 100 == 0) {
                    x = scene.make();
                }
                boolean draw = set >= 0 && set < 1 << scene.n && Integer.bitCount(set) == scene.d;
                for (int i = 0; i < scene.tickets; i += Math.max(1, scene.tickets - 1)) {
                    due.equal("9 right " + i + " " + set + ", " + scene, x.right(i, set),
                        draw ? Integer.bitCount(x.ticket(i) & set) : OUTSIDE);
                }
                due.equal("9 no such, for " + set + ", " + scene, x.right(scene.tickets, set), UNKNOWN);
            }
        }
    }

    private static void promise9Refused() {
        for (Scene scene : Scene.values()) {
            int draw = (1 << scene.d) - 1;
            bounds.beyond(scene, "9 a ticket", 0, scene.tickets - 1, UNKNOWN, (x, i) -> x.right(i, draw));
            bounds.beyond(scene, "9 unknown ahead of outside", 0, scene.tickets - 1, UNKNOWN,
                (x, i) -> x.right(i, draw * 2 + 1));
            bounds.beyond(scene, "9 unknown ahead of far outside", 0, scene.tickets - 1, UNKNOWN,
                (x, i) -> x.right(i, LEAST));
            if (scene.tickets > 0) {
                int last = scene.tickets - 1;
                bounds.beyond(scene, "9 a draw", 0, (1 << scene.n) - 1, OUTSIDE, (x, set) -> x.right(last, set));
                bounds.still(scene, "9 one number too few", OUTSIDE, x -> x.right(0, draw >> 1));
                bounds.still(scene, "9 one number too many", OUTSIDE, x -> x.right(0, draw * 2 + 1));
                bounds.still(scene, "9 no numbers", OUTSIDE, x -> x.right(0, 0));
                bounds.still(scene, "9 all numbers", OUTSIDE, x -> x.right(0, (1 << scene.n) - 1));
                bounds.still(scene, "9 as many, one above the last", OUTSIDE,
                    x -> x.right(0, draw >> 1 | 1 << scene.n));
                bounds.still(scene, "9 as many, with the sign bit", OUTSIDE, x -> x.right(0, draw >> 1 | LEAST));
            }
        }
        bounds.still(Scene.BRIM, "9 a draw of d, not of t", OUTSIDE, x -> x.right(0, x.ticket(0)));
        bounds.still(Scene.BRIM, "9 all of a ticket", 4, x -> x.right(5, 240 + 1));
        bounds.still(Scene.BRIM, "9 as few as can be", 1, x -> x.right(0, 240 + 1));
        bounds.still(Scene.SOME, "9 as few as can be, of six", 1, x -> x.right(0, 56 + 1));
        due.equal("9 none", of(8, 4, 4, 1, "1234").right(0, 240), 0);
    }

    private static void promise10What() {
        bounds.beyondInEach("10 what 0 to 2", 0, 2, OUTSIDE, (x, what) -> x.won(what));
        for (Scene scene : Scene.values()) {
            TicketWheel x = scene.make();
            int all = x.won(1);
            int won = x.won(0);
            bounds.still(scene, "10 what 0, the least", won, y -> y.won(0));
            bounds.still(scene, "10 what 1", all, y -> y.won(1));
            bounds.still(scene, "10 what 2, the greatest", x.won(2), y -> y.won(2));
            due.holds("10 none is missed if all are won, " + scene, (x.won(2) == NONE) == (won == all));
        }
    }

    /** With no tickets no draw is won, and the first of all is missed: in each game. */
    private static void promise10NoTickets() {
        for (int n = 3; n <= 8; n++) {
            for (int d = 2; d < n; d++) {
                TicketWheel x = of(n, 2, d, 1, "");
                String told = " of " + n + " " + d;
                due.equal("10 none won" + told, x.won(0), 0);
                due.equal("10 the least that is not won" + told, x.won(2), (1 << d) - 1);
                due.equal("11 none won, upper" + told, x.odds(0), 0);
                due.equal("11 none won, lower" + told, x.odds(1), 1);
            }
        }
    }

    /** "the least that is not WON (2; NONE)": from none missed to the first and the last alone. */
    private static void promise10NoneMissed() {
        due.equal("10 three draws, all won", of(3, 2, 2, 1, "12").won(2), NONE);
        due.equal("10 seventy draws, all won", of(8, 4, 4, 2, "1234;5678").won(2), NONE);
        TicketWheel last = of(3, 2, 2, 2, "12;13");
        due.equal("10 all but one of three", last.won(0), 2);
        due.equal("10 the last alone is missed", last.won(2), 6);
        TicketWheel first = of(3, 2, 2, 2, "13;23");
        due.equal("10 the first alone is missed", first.won(2), 3);
        TicketWheel middle = of(3, 2, 2, 2, "12;23");
        due.equal("10 the second alone is missed", middle.won(2), 5);
        due.equal("10 none of three missed", of(3, 2, 2, 2, "23;13;12").won(2), NONE);
        // 1234 is missed by 56, 57, 67, 58, 68 and 78 alone; the last of seventy by 12, 13 and their like.
        due.equal("10 the first of seventy alone", of(8, 2, 4, 1, "56;78").won(2), 15);
        due.equal("10 its count", of(8, 2, 4, 1, "56;78").won(0), 69);
        due.equal("10 the last of seventy alone", of(8, 2, 4, 1, "12;34").won(2), 240);
        due.equal("10 its count too", of(8, 2, 4, 1, "12;34").won(0), 69);
        due.equal("10 one of seventy won, the first", of(8, 4, 4, 4, "1234").won(2), 23);
        due.equal("10 one of seventy won, the last", of(8, 4, 4, 4, "5678").won(2), 15);
    }

    /** "A TICKET WINS a DRAW, if r of its NUMBERS or more are drawn": one ticket, in each game. */
    private static void promise10JustRight() {
        for (int n = 3; n <= 8; n++) {
            for (int t = 2; t < n; t++) {
                for (int d = 2; d < n; d++) {
                    for (int r = 1; r <= Math.min(t, d); r++) {
                        justRight(n, t, d, r);
                    }
                }
            }
        }
    }

    private static void justRight(int n, int t, int d, int r) {
        TicketWheel x = of(n, t, d, r, "12345678".substring(n - t, n));
        String told = " of " + n + " " + t + " " + d + " " + r;
        int won = 0;
        int missed = NONE;
        for (int i = 0; i < x.won(1); i++) {
            int draw = x.fits(i);
            boolean wins = x.right(0, draw) >= r;
            won += wins ? 1 : 0;
            missed = missed == NONE && !wins ? draw : missed;
        }
        due.equal("10 won by one ticket" + told, x.won(0), won);
        due.equal("10 the first it misses" + told, x.won(2), missed);
        due.equal("25 won by it alone" + told, x.alone(1, 0), won);
        due.equal("11 odds" + told, x.odds(0) * x.won(1), x.odds(1) * won);
    }

    private static void promise11Part() {
        for (Scene scene : Scene.values()) {
            bounds.beyond(scene, "11 part 0 and 1", 0, 1, GONE_OUTSIDE, (x, part) -> x.odds(part));
        }
    }

    private static void oddsAre(TicketWheel x, String told, long upper, long lower) {
        due.equal("11 upper: " + told, x.odds(0), upper);
        due.equal("11 lower: " + told, x.odds(1), lower);
    }

    private static void promise11LowestTerms() {
        oddsAre(of(3, 2, 2, 1, "12"), "three of three", 1, 1);
        oddsAre(of(8, 4, 4, 2, "1234;5678"), "seventy of seventy", 1, 1);
        oddsAre(of(8, 4, 4, 4, "1234"), "one of seventy", 1, 70);
        oddsAre(of(8, 2, 4, 1, "12;34"), "69 of seventy", 69, 70);
        oddsAre(of(8, 4, 4, 4, "1234;1235"), "two of seventy", 1, 35);
        oddsAre(of(8, 4, 4, 4, "1234;1235;1236;1237;1238"), "five of seventy", 1, 14);
        oddsAre(of(8, 4, 4, 4, "1234;1235;1236;1237;1238;1245"), "six of seventy", 3, 35);
        oddsAre(of(6, 3, 3, 2, "123"), "ten of twenty", 1, 2);
        oddsAre(of(3, 2, 2, 2, "12;13"), "two of three", 2, 3);
        oddsAre(of(3, 2, 2, 2, "12;12"), "one of three, twice", 1, 3);
        oddsAre(of(4, 2, 2, 2, "12;13;14"), "three of six", 1, 2);
        oddsAre(of(4, 2, 2, 2, "12;13;14;23"), "four of six", 2, 3);
    }

    /** "TICKETS without any one of which as many are WON": each looked at alone. */
    private static void promise12FromNoneToAll() {
        due.equal("12 no tickets", new TicketWheel().useless(), 0);
        due.equal("12 one ticket", of(3, 2, 2, 1, "12").useless(), 0);
        due.equal("12 two, each wins all", of(3, 2, 2, 1, "12;13").useless(), 3);
        due.equal("12 six, each wins all", of(3, 2, 2, 1, "12;13;23;12;13;23").useless(), 63);
        due.equal("12 six, each wins one", of(8, 2, 2, 2, "12;13;14;15;16;17").useless(), 0);
        due.equal("12 the first and the last alike", of(8, 2, 2, 2, "12;13;14;15;16;12").useless(), 33);
        due.equal("12 the first alone", of(4, 2, 3, 2, "13;12;34").useless(), 1);
        due.equal("12 the last of three alone", of(4, 2, 3, 2, "12;34;13").useless(), 4);
        TicketWheel x = of(8, 2, 2, 2, "12;13;14;15;16;12");
        due.equal("12 asked twice", x.useless() + x.useless(), 66);
        due.equal("12 they stay", x.told(5), 6);
    }

    private static void promise13EveryNumber() {
        for (int n = 3; n <= 8; n++) {
            for (int t = 2; t < n; t++) {
                String least = "12345678".substring(0, t);
                String greatest = "12345678".substring(n - t, n);
                TicketWheel x = of(n, t, 2, 1, least + ";" + greatest);
                TicketWheel none = of(n, t, 2, 1, "");
                for (int number = 1; number <= n; number++) {
                    int want = (number <= t ? 1 : 0) + (number > n - t ? 1 : 0);
                    String told = "13 number " + number + " of " + n + " " + t;
                    due.equal(told, x.often(number), want);
                    due.equal(told + ", no tickets", none.often(number), 0);
                }
                due.equal("13 zero of " + n, x.often(0), UNKNOWN);
                due.equal("13 one above " + n, x.often(n + 1), UNKNOWN);
                due.equal("13 nine of " + n, x.often(9), UNKNOWN);
            }
        }
    }

    private static void promise13Refused() {
        for (Scene scene : Scene.values()) {
            bounds.beyond(scene, "13 there is no such number", 1, scene.n, UNKNOWN, (x, number) -> x.often(number));
        }
        bounds.still(Scene.SMALL, "13 on the only one", 1, x -> x.often(1));
        bounds.still(Scene.SMALL, "13 on none", 0, x -> x.often(3));
        bounds.still(Scene.BRIM, "13 the first of eight", 3, x -> x.often(1));
        bounds.still(Scene.BRIM, "13 the last of eight", 3, x -> x.often(8));
        due.equal("13 on all six", of(3, 2, 2, 1, "13;13;13;13;13;13").often(3), 6);
    }

    /** "for k NUMBERS RIGHT (k 0 to 8) pence (0 to 999; 0 at first)". */
    private static void promise14Bounds() {
        for (int k = 0; k <= 8; k++) {
            TicketWheel x = new TicketWheel();
            int[] pence = {999, 0, 1, 998, 0, 0, 999};
            int before = 0;
            for (int now : pence) {
                due.equal("14 for " + k + ": which it was", x.prize(k, now), before);
                due.equal("14 for " + k + ": told", x.told(10 + k), now);
                before = now;
            }
            for (int other = 0; other <= 8; other++) {
                due.equal("14 of " + k + " alone, not " + other, x.told(10 + other), other == k ? 999 : 0);
            }
            due.equal("14 refused for " + k, x.prize(k, 1000), OUTSIDE);
            due.equal("14 which it was for " + k + ", past a refusal", x.prize(k, 5), 999);
        }
        // In the smallest game no ticket has three right, and still there are prizes for up to eight.
        due.equal("14 for more than can be right", Scene.SMALL.make().prize(8, 999), 0);
        due.equal("14 for one more than can be right", Scene.SMALL.make().prize(3, 999), 0);
    }

    private static void promise14Refused() {
        bounds.beyondInEach("14 k 0 to 8", 0, 8, OUTSIDE, (x, k) -> x.prize(k, 7));
        bounds.beyondInEach("14 k 0 to 8, no pence", 0, 8, OUTSIDE, (x, k) -> x.prize(k, 0));
        bounds.beyondInEach("14 pence 0 to 999, for none", 0, 999, OUTSIDE, (x, pence) -> x.prize(0, pence));
        bounds.beyondInEach("14 pence 0 to 999, for eight", 0, 999, OUTSIDE, (x, pence) -> x.prize(8, pence));
        bounds.stillInEach("14 both just above", OUTSIDE, x -> x.prize(9, 1000));
        bounds.stillInEach("14 both just below", OUTSIDE, x -> x.prize(-1, -1));
        bounds.stillInEach("14 both far", OUTSIDE, x -> x.prize(GREATEST, LEAST));
        bounds.stillInEach("14 far, the other way about", OUTSIDE, x -> x.prize(LEAST, GREATEST));
        bounds.still(Scene.FRESH, "14 no pence again", 0, x -> x.prize(8, 0));
        bounds.still(Scene.BRIM, "14 the greatest again", 999, x -> x.prize(8, 999));
    }

    private static void promise15Part() {
        for (Scene scene : Scene.values()) {
            bounds.beyond(scene, "15 part 0 and 1", 0, 1, GONE_OUTSIDE, (x, part) -> x.mean(part));
        }
    }

    private static void meanIs(TicketWheel x, String told, long upper, long lower) {
        due.equal("15 upper: " + told, x.mean(0), upper);
        due.equal("15 lower: " + told, x.mean(1), lower);
    }

    private static void promise15NothingToAll() {
        TicketWheel none = new TicketWheel();
        meanIs(none, "no tickets, no prizes", 0, 1);
        for (int k = 0; k <= 8; k++) {
            none.prize(k, 999);
        }
        meanIs(none, "no tickets, all prizes", 0, 1);
        meanIs(of(8, 4, 4, 4, "1234"), "a ticket, no prizes", 0, 1);
        TicketWheel six = of(8, 4, 4, 4, "1234;1235;1236;1237;1238;5678");
        for (int k = 0; k <= 8; k++) {
            six.prize(k, 999);
        }
        meanIs(six, "six tickets, all prizes the greatest", 5994, 1);
        TicketWheel smallest = of(8, 4, 4, 1, "1234");
        smallest.prize(4, 1);
        meanIs(smallest, "a penny by one of seventy", 1, 70);
        smallest.prize(4, 999);
        meanIs(smallest, "999 by one of seventy", 999, 70);
        smallest.prize(4, 70);
        meanIs(smallest, "70 by one of seventy", 1, 1);
        smallest.prize(4, 980);
        meanIs(smallest, "980 by one of seventy", 14, 1);
        smallest.prize(4, 21);
        meanIs(smallest, "21 by one of seventy", 3, 10);
    }

    /** For each count of right numbers its own prize, also below r; those that can't be bring nothing. */
    private static void promise15EachRight() {
        int[] draws = {1, 16, 36, 16, 1};
        for (int k = 0; k <= 8; k++) {
            for (int r = 1; r <= 4; r += 3) {
                TicketWheel x = of(8, 4, 4, r, "2357");
                x.prize(k, 35);
                int pence = k < draws.length ? 35 * draws[k] : 0;
                meanIs(x, "prize for " + k + " right, r " + r, pence % 70 == 0 ? pence / 70 : pence / 35,
                    pence % 70 == 0 ? 1 : 2);
            }
        }
    }
}
