/** The bounds that promises 21 to 29 and the terms of sights, two, years and images name. */
public final class SightsBoundsTest {
    private static final int UNKNOWN = Bounds.UNKNOWN, OUTSIDE = Bounds.OUTSIDE, STATE = Bounds.STATE;
    private static final int FULL = Bounds.FULL, NO = Bounds.NO, NONE = Bounds.NONE;
    private static final int LEAST = Bounds.LEAST, GREATEST = Bounds.GREATEST;

    private static final Due due = new Due("bounds of sights, two, years and images");
    private static final Bounds bounds = new Bounds(due);

    public static void main(String[] args) {
        promise21Refused();
        promise21SixSights();
        promise21EachKindInEachGame();
        promise22NoneToSix();
        promise23Places();
        promise23AllAndNone();
        promise24Refused();
        promise24AllAndNone();
        promise25Refused();
        promise25NoneToSix();
        promise26Refused();
        promise26Lots();
        promise26OneToNinetyNine();
        promise27Refused();
        promise27KeepsAllButThePad();
        promise27KeptAnew();
        promise28Refused();
        promise28AsItWas();
        promise28TheSmallestAndTheFullest();
        promise29Refused();
        promise29EachWhat();
        due.close();
    }

    private static TicketWheel of(int n, int t, int d, int r, String text) {
        TicketWheel x = new TicketWheel();
        x.game(n, t, d, r);
        Scene.hold(x, text);
        return x;
    }

    private static int choose(int n, int k) {
        if (k < 0 || k > n) {
            return 0;
        }
        return k == 0 ? 1 : choose(n - 1, k - 1) + choose(n - 1, k);
    }

    /** "UNKNOWN; OUTSIDE: k 0 to 8, how; FULL", the first of these that fits. */
    private static void promise21Refused() {
        for (Scene scene : Scene.values()) {
            int last = scene.tickets - 1;
            bounds.beyond(scene, "21 a ticket", 0, last, UNKNOWN, (x, i) -> x.seen(i, 1, 1));
            bounds.beyond(scene, "21 unknown ahead of k", 0, last, UNKNOWN, (x, i) -> x.seen(i, 9, 1));
            bounds.beyond(scene, "21 unknown ahead of how", 0, last, UNKNOWN, (x, i) -> x.seen(i, 1, 3));
            bounds.beyond(scene, "21 unknown ahead of both", 0, last, UNKNOWN, (x, i) -> x.seen(i, -1, -1));
            if (scene.tickets > 0) {
                // On the brim there are six sights, too: OUTSIDE is told ahead of FULL.
                bounds.beyond(scene, "21 k 0 to 8", 0, 8, OUTSIDE, (x, k) -> x.seen(last, k, 0));
                bounds.beyond(scene, "21 how 0 to 2", 0, 2, OUTSIDE, (x, how) -> x.seen(0, 0, how));
                bounds.still(scene, "21 both just above", OUTSIDE, x -> x.seen(0, 9, 3));
                bounds.still(scene, "21 both far", OUTSIDE, x -> x.seen(0, GREATEST, LEAST));
            }
        }
        for (int how = 0; how <= 2; how++) {
            int kind = how;
            bounds.still(Scene.BRIM, "21 full, k least", FULL, x -> x.seen(0, 0, kind));
            bounds.still(Scene.BRIM, "21 full, k greatest", FULL, x -> x.seen(5, 8, kind));
        }
    }

    /** "SIGHTS, 6 at most". */
    private static void promise21SixSights() {
        TicketWheel x = of(3, 2, 2, 1, "12");
        for (int sights = 1; sights <= 6; sights++) {
            due.equal("21 sight " + sights, x.seen(0, sights == 6 ? 2 : 1, 1), sights);
            due.equal("21 told " + sights, x.told(7), sights);
        }
        due.equal("21 the sixth counts", x.fits(-1), 1);
        due.equal("21 the seventh", x.seen(0, 0, 0), FULL);
        due.equal("21 the seventh does not count", x.fits(-1), 1);
        due.equal("21 six go", x.forget(), 6);
        due.equal("21 room again", x.seen(0, 0, 1), 1);
        x.say('1');
        x.say('3');
        due.equal("21 they go with new tickets", x.tickets(), 1);
        due.equal("21 room for the first again", x.seen(0, 0, 1), 1);
    }

    /** "so many NUMBERS of a TICKET were RIGHT (how 0), so many or more (1), fewer (2)": each k, each how. */
    private static void promise21EachKindInEachGame() {
        for (int n = 3; n <= 8; n++) {
            for (int t = 2; t < n; t++) {
                for (int d = 2; d < n; d++) {
                    TicketWheel x = of(n, t, d, 1, "12345678".substring(n - t, n));
                    int[] want = new int[3];
                    want[1] = choose(n, d);
                    for (int k = 0; k <= 8; k++) {
                        want[0] = choose(t, k) * choose(n - t, d - k);
                        for (int how = 0; how <= 2; how++) {
                            String told = k + " " + how + " of " + n + " " + t + " " + d;
                            due.equal("21 the only sight " + told, x.seen(0, k, how), 1);
                            due.equal("23 draws by " + told, x.fits(-1), want[how]);
                            due.holds("24 none by " + told, (x.surely(0) == NO) == (want[how] == 0));
                            due.equal("22 the only one goes " + told, x.forget(), 1);
                        }
                        want[1] -= want[0];
                        want[2] += want[0];
                    }
                }
            }
        }
    }

    private static void promise22NoneToSix() {
        bounds.still(Scene.FRESH, "22 none of none", 0, x -> x.forget());
        for (int sights = 0; sights <= 6; sights++) {
            TicketWheel x = of(8, 4, 4, 2, "1234");
            for (int i = 0; i < sights; i++) {
                x.seen(0, 4, 0);
            }
            due.equal("22 how many there were", x.forget(), sights);
            due.equal("22 none left of " + sights, x.told(7), 0);
            due.equal("22 all fit then, after " + sights, x.fits(-1), 70);
            due.equal("22 none go of none, after " + sights, x.forget(), 0);
        }
        TicketWheel y = Scene.BRIM.make();
        due.equal("22 six", y.forget(), 6);
        due.equal("22 tickets stay", y.told(5), 6);
        due.equal("22 fond stays", y.told(6), 147);
        due.equal("22 signs stay", y.told(0), 60);
        due.equal("22 prizes stay", y.told(18), 999);
    }

    /** "how many (i = -1), the i-th; NONE (i below -1, too)". */
    private static void promise23Places() {
        for (Scene scene : Scene.values()) {
            int many = scene.make().fits(-1);
            bounds.beyond(scene, "23 an i of none", -1, many - 1, NONE, (x, i) -> x.fits(i));
            TicketWheel x = scene.make();
            int before = 0;
            for (int i = 0; i < many; i++) {
                int draw = x.fits(i);
                due.holds("23 draw " + i + " of " + scene + " rises", draw > before);
                due.holds("23 and is a draw", Integer.bitCount(draw) == scene.d && draw < 1 << scene.n);
                before = draw;
            }
        }
        bounds.still(Scene.FRESH, "23 all of them", 35, x -> x.fits(-1));
        bounds.still(Scene.FRESH, "23 the first", 7, x -> x.fits(0));
        bounds.still(Scene.FRESH, "23 the last", 112, x -> x.fits(34));
    }

    /** "DRAWS that hold all": no sights, one that all hold, one that none holds, two that exclude each other. */
    private static void promise23AllAndNone() {
        TicketWheel x = of(8, 4, 4, 4, "1234;5678");
        due.equal("23 no sights: all seventy", x.fits(-1), 70);
        due.equal("23 the seventieth", x.fits(69), 240);
        due.equal("23 no 71st", x.fits(70), NONE);
        x.seen(0, 0, 1);
        due.equal("23 none or more: all", x.fits(-1), 70);
        x.seen(0, 5, 2);
        due.equal("23 fewer than can be more: all", x.fits(-1), 70);
        x.seen(0, 4, 0);
        due.equal("23 one", x.fits(-1), 1);
        due.equal("23 the only one", x.fits(0), 15);
        due.equal("23 no second", x.fits(1), NONE);
        x.seen(1, 0, 0);
        due.equal("23 the same one", x.fits(0), 15);
        x.seen(1, 1, 1);
        due.equal("23 none", x.fits(-1), 0);
        due.equal("23 no first", x.fits(0), NONE);
        due.equal("23 below still", x.fits(-2), NONE);
        due.equal("24 no draw fits", x.surely(0), NO);
        TicketWheel last = of(8, 4, 4, 4, "5678");
        last.seen(0, 4, 1);
        due.equal("23 the last of seventy alone", last.fits(0), 240);
        due.equal("24 it was drawn", last.surely(0), 240);
        due.equal("24 the others were not", last.surely(1), 15);
    }

    /** "OUTSIDE; NO: no DRAW fits." */
    private static void promise24Refused() {
        bounds.beyondInEach("24 what 0 and 1", 0, 1, OUTSIDE, (x, what) -> x.surely(what));
        TicketWheel x = of(3, 2, 2, 1, "12");
        x.seen(0, 0, 0);
        due.equal("24 no draw fits, drawn", x.surely(0), NO);
        due.equal("24 no draw fits, not drawn", x.surely(1), NO);
        due.equal("24 outside ahead of no, below", x.surely(-1), OUTSIDE);
        due.equal("24 outside ahead of no, above", x.surely(2), OUTSIDE);
        for (int far : Bounds.FAR) {
            due.equal("24 outside ahead of no, " + far, x.surely(far), OUTSIDE);
        }
        due.equal("24 the sight stays", x.forget(), 1);
        due.equal("24 some fit again", x.surely(0), 0);
    }

    /** "NUMBERS drawn in all of them, in none": all draws, one draw, and two. */
    private static void promise24AllAndNone() {
        for (int n = 3; n <= 8; n++) {
            for (int d = 2; d < n; d++) {
                String told = " of " + n + " " + d;
                TicketWheel x = of(n, d, d, 1, "12345678".substring(0, d));
                due.equal("24 no sights, drawn" + told, x.surely(0), 0);
                due.equal("24 no sights, not drawn" + told, x.surely(1), 0);
                x.seen(0, d, 0);
                due.equal("24 one draw fits, drawn" + told, x.surely(0), (1 << d) - 1);
                due.equal("24 one draw fits, not drawn" + told, x.surely(1), (1 << n) - (1 << d));
            }
        }
        TicketWheel two = of(3, 2, 2, 1, "13");
        two.seen(0, 1, 0);
        due.equal("24 two draws fit, drawn", two.surely(0), 2);
        due.equal("24 two draws fit, not drawn", two.surely(1), 0);
    }

    /** "OUTSIDE: bits of TICKETS that there are." */
    private static void promise25Refused() {
        for (Scene scene : Scene.values()) {
            int all = (1 << scene.tickets) - 1;
            bounds.beyond(scene, "25 first", 0, all, OUTSIDE, (x, bits) -> x.alone(bits, 0));
            bounds.beyond(scene, "25 second", 0, all, OUTSIDE, (x, bits) -> x.alone(0, bits));
            bounds.beyond(scene, "25 second, first all", 0, all, OUTSIDE, (x, bits) -> x.alone(all, bits));
            bounds.beyond(scene, "25 both", 0, all, OUTSIDE, (x, bits) -> x.alone(bits, bits));
            bounds.still(scene, "25 one there is, one there is not", OUTSIDE, x -> x.alone(all + 1 | all, 0));
            bounds.still(scene, "25 none, none", 0, x -> x.alone(0, 0));
            bounds.still(scene, "25 none, all", 0, x -> x.alone(0, all));
            bounds.still(scene, "25 all, all", 0, x -> x.alone(all, all));
            bounds.still(scene, "25 all, none", scene.make().won(0), x -> x.alone(all, 0));
            for (int bit = scene.tickets; bit < 32; bit++) {
                int far = 1 << bit;
                bounds.still(scene, "25 first, bit " + bit, OUTSIDE, x -> x.alone(far, 0));
                bounds.still(scene, "25 second, bit " + bit, OUTSIDE, x -> x.alone(0, far));
            }
        }
    }

    private static void promise25NoneToSix() {
        TicketWheel x = of(8, 2, 2, 2, "12;13;14;15;16;17");
        due.equal("25 six, none", x.alone(63, 0), 6);
        due.equal("25 six, the last", x.alone(63, 32), 5);
        due.equal("25 the last, five", x.alone(32, 31), 1);
        due.equal("25 one, itself", x.alone(1, 1), 0);
        TicketWheel y = of(3, 2, 2, 1, "12;13");
        due.equal("25 each wins all", y.alone(1, 2), 0);
        due.equal("25 each wins all, alone", y.alone(1, 0), 3);
        Scene.hold(y, "12");
        due.equal("25 the second went", y.alone(2, 0), OUTSIDE);
        due.equal("25 the second went, of the second", y.alone(1, 2), OUTSIDE);
        y.game(3, 2, 2, 1);
        due.equal("25 the first went", y.alone(1, 0), OUTSIDE);
        due.equal("25 none of none", y.alone(0, 0), 0);
    }

    /** "a seed (0 to 9999) of m DRAWS (1 to 99)", "how many were WON (what = 0), pence (1). OUTSIDE." */
    private static void promise26Refused() {
        for (int what = 0; what <= 1; what++) {
            int asked = what;
            bounds.beyondInEach("26 seed, what " + what, 0, 9999, OUTSIDE, (x, seed) -> x.year(seed, 1, asked));
            bounds.beyondInEach("26 m, what " + what, 1, 99, OUTSIDE, (x, m) -> x.year(9999, m, asked));
        }
        bounds.beyondInEach("26 what", 0, 1, OUTSIDE, (x, what) -> x.year(0, 99, what));
        bounds.stillInEach("26 all just below", OUTSIDE, x -> x.year(-1, 0, -1));
        bounds.stillInEach("26 all just above", OUTSIDE, x -> x.year(10000, 100, 2));
        bounds.stillInEach("26 all least", OUTSIDE, x -> x.year(LEAST, LEAST, LEAST));
        bounds.stillInEach("26 all greatest", OUTSIDE, x -> x.year(GREATEST, GREATEST, GREATEST));
        for (int what = 0; what <= 1; what++) {
            int asked = what;
            bounds.still(Scene.FRESH, "26 no tickets, least", 0, x -> x.year(0, 1, asked));
            bounds.still(Scene.FRESH, "26 no tickets, greatest", 0, x -> x.year(9999, 99, asked));
        }
    }

    /**
     * "(75 x and 74) left over by 65537": 872 is the last seed that stays below 65537 by one step.
     * In a game where a ticket wins one draw, that draw alone is won in a year of one draw.
     */
    private static void promise26Lots() {
        int[] seeds = {0, 1, 2, 69, 872, 873, 874, 1746, 1747, 9998, 9999};
        TicketWheel all = of(8, 4, 4, 4, "");
        for (int seed : seeds) {
            int lot = (int) ((75L * seed + 74) % 65537);
            int draw = all.fits(lot % 70);
            StringBuilder text = new StringBuilder();
            for (int number = 1; number <= 8; number++) {
                text.append((draw >> number - 1 & 1) == 1 ? "" + number : "");
            }
            TicketWheel x = of(8, 4, 4, 4, text.toString());
            x.prize(4, 999);
            due.equal("26 the ticket of the draw of seed " + seed, x.ticket(0), draw);
            due.equal("26 it wins the only draw of seed " + seed, x.year(seed, 1, 0), 1);
            due.equal("26 its pence", x.year(seed, 1, 1), 999);
            int won = 0;
            for (int m = 1; m <= 99; m++) {
                won += lot % 70 == (75L * seed + 74) % 65537 % 70 ? 1 : 0;
                due.equal("26 won by seed " + seed + " in " + m, x.year(seed, m, 0), won);
                due.equal("26 pence by seed " + seed + " in " + m, x.year(seed, m, 1), 999 * won);
                lot = (int) ((75L * lot + 74) % 65537);
            }
        }
        due.equal("26 by hand: 74 left over by 3 is 2, the last draw", of(3, 2, 2, 2, "23").year(0, 1, 0), 1);
        due.equal("26 by hand: not the first", of(3, 2, 2, 2, "12").year(0, 1, 0), 0);
        due.equal("26 by hand: not the second", of(3, 2, 2, 2, "13").year(0, 1, 0), 0);
        // 75 x 873 and 74 is 65549, which leaves 12 over, and 12 leaves none over by 3.
        due.equal("26 by hand: past 65537, the first draw", of(3, 2, 2, 2, "12").year(873, 1, 0), 1);
        // 75 x 872 and 74 is 65474, which leaves 2 over by 3.
        due.equal("26 by hand: short of 65537, the last draw", of(3, 2, 2, 2, "23").year(872, 1, 0), 1);
    }

    /** None won and all won, no pence and the most there can be. */
    private static void promise26OneToNinetyNine() {
        TicketWheel x = of(8, 4, 4, 1, "1234;5678;1234;5678;1234;5678");
        for (int m = 1; m <= 99; m++) {
            due.equal("26 all won of " + m, x.year(9999, m, 0), m);
            due.equal("26 no pence of " + m, x.year(9999, m, 1), 0);
        }
        for (int k = 0; k <= 8; k++) {
            x.prize(k, 999);
        }
        due.equal("26 the most pence of one draw", x.year(0, 1, 1), 5994);
        due.equal("26 the most pence there can be", x.year(9999, 99, 1), 593406);
        due.equal("26 won still", x.year(9999, 99, 0), 99);
        TicketWheel none = of(8, 2, 2, 2, "12");
        none.prize(0, 1);
        int lost = none.year(9999, 99, 1);
        none.prize(0, 0);
        none.prize(1, 1);
        int half = none.year(9999, 99, 1);
        due.equal("26 pence also where nothing is won", lost + half + none.year(9999, 99, 0), 99);
    }

    private static void promise27Refused() {
        bounds.beyondInEach("27 images 0 and 1", 0, 1, OUTSIDE, (x, n) -> x.image(n));
        for (Scene scene : Scene.values()) {
            for (int n = 0; n <= 1; n++) {
                TicketWheel x = scene.make();
                due.equal("27 kept", x.image(n), 1);
                due.equal("27 at once as it was", x.restore(n), 1);
                TicketWheel y = scene.make();
                y.image(n);
                bounds.sameLook("27 restoring at once changes nothing, " + scene, x, y);
            }
        }
    }

    /** "All but the PAD": what the restored object answers is what the kept one did, and its PAD is the other's. */
    private static void promise27KeepsAllButThePad() {
        for (Scene scene : Scene.values()) {
            for (int n = 0; n <= 1; n++) {
                TicketWheel x = scene.make();
                x.image(n);
                disturb(x);
                due.equal("28 restored, " + scene, x.restore(n), 1);
                due.equal("27 the pad is not kept, " + scene, x.told(0), 6);
                due.equal("27 nor its text, " + scene, x.fault(), scene.t);
                x.wipe();
                TicketWheel y = scene.make();
                y.image(n);
                y.wipe();
                bounds.sameLook("27 all else is, " + scene + " " + n, x, y);
            }
        }
    }

    /** Changes all that there is, and writes a pad of its own. */
    private static void disturb(TicketWheel x) {
        x.game(4, 2, 2, 2);
        Scene.hold(x, "12;34;13;24");
        x.fond(8);
        for (int k = 0; k <= 8; k++) {
            x.prize(k, 100 + k);
        }
        for (int sights = 0; sights < 6; sights++) {
            x.seen(3, 2, 0);
        }
        Scene.write(x, "123456");
    }

    private static void promise27KeptAnew() {
        TicketWheel x = new TicketWheel();
        x.image(0);
        x.image(1);
        x.game(3, 2, 2, 1);
        due.equal("27 kept anew", x.image(0), 1);
        due.equal("28 the other as it was", x.restore(1), 1);
        due.equal("28 seven numbers", x.told(1), 7);
        due.equal("28 the one kept anew", x.restore(0), 1);
        due.equal("28 three numbers", x.told(1), 3);
        x.game(8, 2, 2, 1);
        due.equal("27 refused", x.image(2), OUTSIDE);
        due.equal("27 refused below", x.image(-1), OUTSIDE);
        x.restore(0);
        due.equal("28 still three numbers", x.told(1), 3);
    }

    /** "OUTSIDE; STATE: it was not." */
    private static void promise28Refused() {
        // In the new object none is kept: OUTSIDE is told ahead of STATE.
        bounds.beyondInEach("28 images 0 and 1", 0, 1, OUTSIDE, (x, n) -> x.restore(n));
        bounds.still(Scene.FRESH, "28 none is kept", STATE, x -> x.restore(0));
        bounds.still(Scene.FRESH, "28 none is kept, of the second", STATE, x -> x.restore(1));
        bounds.still(Scene.SOME, "28 only the first is kept", STATE, x -> x.restore(1));
        TicketWheel x = new TicketWheel();
        x.image(1);
        due.equal("28 only the second is kept", x.restore(0), STATE);
        due.equal("28 it is", x.restore(1), 1);
        x.restore(0);
        x.game(3, 2, 2, 1);
        due.equal("28 a game keeps nothing", x.restore(0), STATE);
        due.equal("28 nor loses what is kept", x.restore(1), 1);
    }

    /** What is done after the image was kept, or after it was restored, is not kept in it. */
    private static void promise28AsItWas() {
        TicketWheel x = Scene.SOME.make();
        x.image(0);
        x.image(1);
        for (int turn = 1; turn <= 3; turn++) {
            disturb(x);
            due.equal("28 restored, turn " + turn, x.restore(turn % 2), 1);
            x.prize(turn, 500);
            x.seen(0, 0, 0);
            x.fond(4);
        }
        due.equal("28 restored at last", x.restore(0), 1);
        x.wipe();
        TicketWheel y = Scene.SOME.make();
        y.image(0);
        y.image(1);
        y.wipe();
        bounds.sameLook("28 it is as it was", x, y);
    }

    private static void promise28TheSmallestAndTheFullest() {
        TicketWheel x = Scene.BRIM.make();
        x.image(0);
        x.game(3, 2, 2, 1);
        x.image(1);
        due.equal("28 the fullest", x.restore(0), 1);
        int[] full = {60, 8, 4, 5, 3, 6, 147, 6};
        for (int what = 0; what < full.length; what++) {
            due.equal("28 the fullest: told " + what, x.told(what), full[what]);
        }
        due.equal("28 a seventh sight", x.seen(0, 0, 0), FULL);
        due.equal("28 the sixth ticket", x.ticket(5), 240);
        due.equal("28 a fond that is known", x.fond(147), 147);
        due.equal("28 the smallest", x.restore(1), 1);
        int[] small = {60, 3, 2, 2, 1, 0, 0, 0};
        for (int what = 0; what < small.length; what++) {
            due.equal("28 the smallest: told " + what, x.told(what), small[what]);
        }
        due.equal("28 no ticket", x.ticket(0), UNKNOWN);
        due.equal("28 three draws", x.won(1), 3);
        due.equal("28 none won", x.won(0), 0);
        due.equal("28 all fit", x.fits(-1), 3);
        due.equal("28 the least that could be", x.most(1, 0), 3);
    }

    private static void promise29Refused() {
        bounds.beyondInEach("29 what 0 to 18", 0, 18, OUTSIDE, (x, what) -> x.told(what));
        bounds.stillInEach("29 what 8, above the sights", OUTSIDE, x -> x.told(8));
        bounds.stillInEach("29 what 9, below the prizes", OUTSIDE, x -> x.told(9));
        bounds.stillInEach("29 what 20", OUTSIDE, x -> x.told(20));
        bounds.stillInEach("29 what 256", OUTSIDE, x -> x.told(256));
    }

    private static void promise29EachWhat() {
        int[][] want = {
            {0, 7, 3, 3, 2, 0, 0, 0, OUTSIDE, OUTSIDE, 0, 0, 0, 0, 0, 0, 0, 0, 0, OUTSIDE},
            {5, 3, 2, 2, 1, 1, 0, 1, OUTSIDE, OUTSIDE, 0, 0, 0, 0, 0, 0, 0, 0, 0, OUTSIDE},
            {2, 6, 3, 4, 2, 2, 1, 1, OUTSIDE, OUTSIDE, 0, 5, 70, 0, 999, 0, 0, 0, 0, OUTSIDE},
            {60, 8, 4, 5, 3, 6, 147, 6, OUTSIDE, OUTSIDE, 991, 992, 993, 994, 995, 996, 997, 998, 999, OUTSIDE}};
        for (Scene scene : Scene.values()) {
            for (int what = 0; what <= 19; what++) {
                int asked = what;
                bounds.still(scene, "29 told " + what, want[scene.ordinal()][what], x -> x.told(asked));
            }
        }
    }
}
