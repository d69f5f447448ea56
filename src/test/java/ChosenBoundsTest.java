/** The bounds that promises 16 to 20 and the terms of tickets that could be name. */
public final class ChosenBoundsTest {
    private static final int OUTSIDE = Bounds.OUTSIDE, STATE = Bounds.STATE, NONE = Bounds.NONE;
    private static final int LEAST = Bounds.LEAST, GREATEST = Bounds.GREATEST;

    private static final Due due = new Due("bounds of tickets that could be");
    private static final Bounds bounds = new Bounds(due);

    public static void main(String[] args) {
        promise16Refused();
        promise16Places();
        promise16JustSoManyThatCouldBe();
        promise16OneThatCouldBe();
        promise16TicketsThereAre();
        promise17FromOneToFour();
        promise17NotByFour();
        promise17TooFewThatCouldBe();
        promise17Places();
        promise18EveryGame();
        promise18CutUp();
        promise19Refused();
        promise19NoneToSix();
        promise19OneThatCouldBe();
        promise20Refused();
        promise20OneToSix();
        promise20OfSeveral();
        due.close();
    }

    private static TicketWheel of(int n, int t, int d, int r, String text) {
        TicketWheel x = new TicketWheel();
        x.game(n, t, d, r);
        Scene.hold(x, text);
        return x;
    }

    private static int choose(int n, int k) {
        if (k < 0 || k > n) {
            return 0;
        }
        return k == 0 ? 1 : choose(n - 1, k - 1) + choose(n - 1, k);
    }

    /** How many draws a ticket wins, by counting. */
    private static int wonByOne(int n, int t, int d, int r) {
        int won = 0;
        for (int right = r; right <= t; right++) {
            won += choose(t, right) * choose(n - t, d - right);
        }
        return won;
    }

    /** "k TICKETS (1 to 3)", "OUTSIDE: k": also where i is of none, or there are not so many. */
    private static void promise16Refused() {
        int[] places = {-1, 0, 2, 3, -2, LEAST, GREATEST};
        for (int i : places) {
            bounds.beyondInEach("16 k 1 to 3, i " + i, 1, 3, OUTSIDE, (x, k) -> x.most(k, i));
        }
        TicketWheel x = of(3, 2, 2, 2, "");
        x.fond(3);
        due.equal("16 k below, and not so many", x.most(0, 0), OUTSIDE);
        due.equal("16 k above, and not so many", x.most(4, 0), OUTSIDE);
    }

    /** "WON (i = -1), the i-th TICKET; NONE: (also an i of none)". */
    private static void promise16Places() {
        int[][] want = {{7}, {7, 56}, {7, 11, 112}};
        int[] won = {13, 26, 32};
        for (int k = 1; k <= 3; k++) {
            int tickets = k;
            bounds.still(Scene.FRESH, "16 won by " + k, won[k - 1], x -> x.most(tickets, -1));
            for (int i = 0; i < k; i++) {
                int place = i;
                bounds.still(Scene.FRESH, "16 ticket " + i + " of " + k, want[k - 1][i],
                    x -> x.most(tickets, place));
            }
            for (Scene scene : Scene.values()) {
                // -1 asks how many are WON, so that -2 is the first below that is of none.
                bounds.beyond(scene, "16 an i of none, " + k, -1, k - 1, NONE, (x, i) -> x.most(tickets, i));
            }
        }
    }

    /** "NONE: there are not so many that could be": none, one and two less than k. */
    private static void promise16JustSoManyThatCouldBe() {
        int[] fonds = {3, 1, 0};
        int[][] could = {{3}, {3, 5}, {3, 5, 6}};
        for (int many = 1; many <= 3; many++) {
            TicketWheel x = of(3, 2, 2, 2, "");
            x.fond(fonds[many - 1]);
            for (int k = 1; k <= 3; k++) {
                String told = "16 " + k + " of " + many + " that could be";
                due.equal(told + ": won", x.most(k, -1), k > many ? NONE : k);
                for (int i = 0; i <= 3; i++) {
                    due.equal(told + ": " + i, x.most(k, i), k > many || i >= k ? NONE : could[many - 1][i]);
                }
                due.equal(told + ": below", x.most(k, -2), NONE);
            }
        }
        TicketWheel y = of(8, 7, 7, 7, "");
        y.fond(31);
        due.equal("16 three of eight: won", y.most(3, -1), 3);
        due.equal("16 three of eight: the last", y.most(3, 2), 223);
        y.fond(63);
        due.equal("16 two of eight", y.most(2, 1), 191);
        due.equal("16 not three of eight", y.most(3, -1), NONE);
    }

    /** With as many fond numbers as a ticket has there is one, in each game. */
    private static void promise16OneThatCouldBe() {
        for (int n = 3; n <= 8; n++) {
            for (int t = 2; t < n; t++) {
                TicketWheel x = of(n, t, 2, 1, "");
                int last = (1 << n) - (1 << n - t);
                String told = " of " + n + " " + t;
                due.equal("16 the greatest is fond" + told, x.fond(last), 0);
                due.equal("16 it alone could be" + told, x.most(1, 0), last);
                due.equal("16 what it wins" + told, x.most(1, -1), wonByOne(n, t, 2, 1));
                due.equal("16 not two" + told, x.most(2, -1), NONE);
                due.equal("16 not three" + told, x.most(3, 0), NONE);
                boolean all = wonByOne(n, t, 2, 1) == choose(n, 2);
                due.equal("17 it alone, if it wins all" + told, x.sure(-1), all ? 1 : NONE);
                due.equal("17 it, if it wins all" + told, x.sure(0), all ? last : NONE);
                due.equal("17 no second" + told, x.sure(1), NONE);
                due.equal("19 it alone is more" + told, x.more(0), last);
                due.equal("8 one fewer" + told, x.fond(last & last - 1), last);
                due.holds("16 two could be" + told, x.most(2, -1) != NONE);
                due.holds("16 three, if n is two above t" + told, (x.most(3, -1) != NONE) == (n - t >= 2));
            }
        }
    }

    /** "none of those there are counting", "unlike ones". */
    private static void promise16TicketsThereAre() {
        TicketWheel x = of(3, 2, 2, 2, "12;13;23;12;13;23");
        due.equal("16 the one that is there", x.most(1, 0), 3);
        due.equal("16 wins as if it were not", x.most(1, -1), 1);
        due.equal("16 all three that are there", x.most(3, -1), 3);
        TicketWheel y = of(4, 2, 2, 1, "12;34");
        due.equal("16 all are won by two", y.most(2, -1), 6);
        due.equal("16 three are chosen still, unlike ones: first", y.most(3, 0), 3);
        due.equal("16 second", y.most(3, 1), 5);
        due.equal("16 third", y.most(3, 2), 6);
        due.equal("16 won by them", y.most(3, -1), 6);
        TicketWheel z = of(3, 2, 2, 1, "");
        due.equal("16 each wins all: first of three", z.most(3, 0), 3);
        due.equal("16 each wins all: last of three", z.most(3, 2), 6);
    }

    private static void sureIs(int n, int t, int d, int r, int... want) {
        TicketWheel x = of(n, t, d, r, "");
        String told = " of " + n + " " + t + " " + d + " " + r;
        due.equal("17 how many" + told, x.sure(-1), want.length == 0 ? NONE : want.length);
        for (int i = 0; i <= 5; i++) {
            due.equal("17 ticket " + i + told, x.sure(i), i < want.length ? want[i] : NONE);
        }
        due.equal("17 below" + told, x.sure(-2), NONE);
        due.equal("17 far below" + told, x.sure(LEAST), NONE);
        due.equal("17 far above" + told, x.sure(GREATEST), NONE);
    }

    /** "the fewest TICKETS that could be, 4 at most". */
    private static void promise17FromOneToFour() {
        sureIs(3, 2, 2, 1, 3);
        sureIs(8, 7, 7, 6, 127);
        sureIs(4, 2, 2, 1, 3, 5);
        sureIs(4, 2, 3, 2, 3, 12);
        sureIs(6, 3, 3, 2, 7, 56);
        sureIs(3, 2, 2, 2, 3, 5, 6);
        sureIs(4, 3, 3, 3, 7, 11, 13, 14);
        sureIs(7, 3, 3, 2, 7, 11, 13, 112);
    }

    /** "NONE: not by 4": where five would be the fewest, and where seventy would. */
    private static void promise17NotByFour() {
        sureIs(5, 4, 4, 4);
        sureIs(8, 3, 3, 2);
        sureIs(4, 2, 2, 2);
        sureIs(8, 4, 4, 3);
        sureIs(8, 4, 4, 4);
    }

    /** Four that win all must be among those that could be. */
    private static void promise17TooFewThatCouldBe() {
        TicketWheel x = of(4, 3, 3, 3, "123;124;134;234");
        due.equal("17 four could be, four are needed", x.sure(-1), 4);
        x.fond(1);
        due.equal("17 three could be, four are needed", x.sure(-1), NONE);
        due.equal("17 none of three", x.sure(0), NONE);
        x.fond(7);
        due.equal("17 one could be, four are needed", x.sure(-1), NONE);
        x.fond(0);
        due.equal("17 four could be again", x.sure(3), 14);
        TicketWheel y = of(3, 2, 2, 2, "12;13;23");
        due.equal("17 three could be, three are needed", y.sure(-1), 3);
        y.fond(4);
        due.equal("17 two could be, three are needed", y.sure(-1), NONE);
        TicketWheel z = of(3, 2, 2, 1, "");
        z.fond(6);
        due.equal("17 one could be, one is needed", z.sure(0), 6);
        due.equal("17 one is enough", z.sure(-1), 1);
    }

    private static void promise17Places() {
        bounds.beyond(Scene.FRESH, "17 i of four", -1, 3, NONE, (x, i) -> x.sure(i));
        bounds.beyond(Scene.SMALL, "17 i of one", -1, 0, NONE, (x, i) -> x.sure(i));
        bounds.beyond(Scene.BRIM, "17 i of none", -1, -1, NONE, (x, i) -> x.sure(i));
        bounds.still(Scene.FRESH, "17 four", 4, x -> x.sure(-1));
        bounds.still(Scene.FRESH, "17 the last of four", 112, x -> x.sure(3));
        bounds.still(Scene.SMALL, "17 one", 1, x -> x.sure(-1));
        bounds.still(Scene.SMALL, "17 the only one", 3, x -> x.sure(0));
        bounds.still(Scene.BRIM, "17 not by the one that could be", NONE, x -> x.sure(-1));
    }

    /** "all DRAWS by how many one TICKET WINS, cut up". */
    private static void promise18EveryGame() {
        for (int n = 3; n <= 8; n++) {
            for (int t = 2; t < n; t++) {
                for (int d = 2; d < n; d++) {
                    for (int r = 1; r <= Math.min(t, d); r++) {
                        TicketWheel x = of(n, t, d, r, "");
                        int all = choose(n, d);
                        int one = wonByOne(n, t, d, r);
                        int want = 0;
                        while (want * one < all) {
                            want++;
                        }
                        String told = " of " + n + " " + t + " " + d + " " + r;
                        due.equal("18" + told, x.bound(), want);
                        x.fond((1 << n) - (1 << n - t));
                        due.equal("18 fond is no matter" + told, x.bound(), want);
                    }
                }
            }
        }
    }

    private static void promise18CutUp() {
        due.equal("18 three by three, the least", of(3, 2, 2, 1, "").bound(), 1);
        due.equal("18 three by one", of(3, 2, 2, 2, "").bound(), 3);
        due.equal("18 35 by 34 is one and a little", of(7, 3, 4, 1, "").bound(), 2);
        due.equal("18 35 by 13", of(7, 3, 3, 2, "").bound(), 3);
        due.equal("18 20 by 10, nothing over", of(6, 3, 3, 2, "").bound(), 2);
        due.equal("18 70 by 17, two over", of(8, 4, 4, 3, "").bound(), 5);
        due.equal("18 70 by one, the greatest", of(8, 4, 4, 4, "").bound(), 70);
        for (Scene scene : Scene.values()) {
            int want = new int[] {3, 1, 2, 2}[scene.ordinal()];
            bounds.still(scene, "18 bound", want, x -> x.bound());
        }
    }

    private static void promise19Refused() {
        bounds.beyondInEach("19 what 0 and 1", 0, 1, OUTSIDE, (x, what) -> x.more(what));
    }

    /** "with those there are": none, and as many as there can be. */
    private static void promise19NoneToSix() {
        bounds.still(Scene.FRESH, "19 beside none", 7, x -> x.more(0));
        bounds.still(Scene.FRESH, "19 won by it alone", 13, x -> x.more(1));
        bounds.still(Scene.SMALL, "19 all are won: the least", 3, x -> x.more(0));
        bounds.still(Scene.SMALL, "19 all are won", 3, x -> x.more(1));
        String six = "12;13;14;15;16;17";
        TicketWheel x = of(8, 2, 2, 2, six);
        due.equal("19 beside six", x.more(0), 6);
        due.equal("19 won by seven", x.more(1), 7);
        due.equal("19 six stay", x.told(5), 6);
        TicketWheel last = of(4, 2, 2, 2, "12;13;14;23;24");
        due.equal("19 the last that wins more", last.more(0), 12);
        due.equal("19 all then", last.more(1), 6);
        TicketWheel first = of(4, 2, 2, 2, "34;13;14;23;24");
        due.equal("19 the first that wins more", first.more(0), 3);
        due.equal("19 all of them then", first.more(1), 6);
        TicketWheel all = of(4, 2, 2, 2, "34;24;23;14;13;12");
        due.equal("19 no more to win: the least", all.more(0), 3);
        due.equal("19 no more", all.more(1), 6);
    }

    private static void promise19OneThatCouldBe() {
        bounds.still(Scene.BRIM, "19 all of its numbers fond, beside six", 147, x -> x.more(0));
        TicketWheel x = of(4, 2, 2, 2, "34");
        x.fond(12);
        due.equal("19 the one that is there", x.more(0), 12);
        due.equal("19 wins no more", x.more(1), 1);
        x.fond(8);
        due.equal("19 three could be, one is there", x.more(0), 9);
        due.equal("19 wins one more", x.more(1), 2);
        // With a fond number fewer are won than could be without, and still it must be there.
        TicketWheel y = of(4, 2, 2, 1, "12");
        due.equal("19 without fond", y.more(0), 5);
        due.equal("19 all six without fond", y.more(1), 6);
        y.fond(3);
        due.equal("19 the one, though it wins nothing", y.more(0), 3);
        due.equal("19 five of six still", y.more(1), 5);
    }

    /** "OUTSIDE; STATE: there are none." */
    private static void promise20Refused() {
        // In the new object there are none, too: OUTSIDE is told ahead of STATE.
        bounds.beyondInEach("20 what 0 to 2", 0, 2, OUTSIDE, (x, what) -> x.changed(what));
        for (int what = 0; what <= 2; what++) {
            int asked = what;
            bounds.still(Scene.FRESH, "20 there are none, " + what, STATE, x -> x.changed(asked));
            TicketWheel x = Scene.BRIM.make();
            x.wipe();
            x.tickets();
            due.equal("20 there are none any more, " + what, x.changed(what), STATE);
        }
        TicketWheel y = Scene.BRIM.make();
        y.game(3, 2, 2, 1);
        due.equal("20 there are none after a game", y.changed(0), STATE);
        due.equal("20 outside after a game", y.changed(3), OUTSIDE);
    }

    private static void changeIs(String told, TicketWheel x, int ticket, int into, int won) {
        due.equal("20 which: " + told, x.changed(0), ticket);
        due.equal("20 for which: " + told, x.changed(1), into);
        due.equal("20 won then: " + told, x.changed(2), won);
    }

    private static void promise20OneToSix() {
        changeIs("the only one, for the least", of(7, 3, 3, 2, "567"), 0, 7, 13);
        changeIs("the only one, which is the least", of(7, 3, 3, 2, "123"), 0, 7, 13);
        changeIs("two that can't be bettered: the first, for itself", of(4, 2, 2, 1, "13;12"), 0, 5, 6);
        changeIs("two alike: the first", of(4, 2, 2, 2, "12;12"), 0, 5, 2);
        changeIs("the last of six", of(8, 2, 2, 2, "12;13;14;15;16;12"), 0, 6, 6);
        changeIs("six that can't be bettered: the first, for itself", of(8, 2, 2, 2, "12;13;14;15;16;17"), 0, 3, 6);
        TicketWheel alike = of(8, 4, 4, 4, "1234;1235;1236;1237;1238;1234");
        changeIs("one of two alike, for the least that is not there", alike, 0, 27, 6);
        TicketWheel late = of(4, 2, 3, 2, "12;34;13");
        changeIs("all are won already: the first, for the least", late, 0, 3, 4);
    }

    /** "of several the first TICKET, then the least". */
    private static void promise20OfSeveral() {
        changeIs("each of three alike", of(4, 2, 2, 2, "34;34;34"), 0, 3, 2);
        TicketWheel fond = of(4, 2, 2, 1, "13;12;12");
        fond.fond(12);
        changeIs("for the one that could be", fond, 0, 12, 6);
        TicketWheel worse = of(4, 2, 3, 2, "12;34");
        due.equal("20 all are won ahead", worse.won(0), 4);
        worse.fond(10);
        changeIs("for one that could be, though fewer are won", worse, 0, 10, 3);
        TicketWheel second = of(7, 3, 3, 2, "123;567;567");
        changeIs("a later one", second, 1, 11, 32);
    }
}
