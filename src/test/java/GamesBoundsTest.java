/** The bounds that promises 1 to 8 and the terms of games and tickets name. */
public final class GamesBoundsTest {
    private static final int UNKNOWN = Bounds.UNKNOWN, OUTSIDE = Bounds.OUTSIDE, STATE = Bounds.STATE;
    private static final int FULL = Bounds.FULL, NO = Bounds.NO, NONE = Bounds.NONE;
    private static final int LEAST = Bounds.LEAST, GREATEST = Bounds.GREATEST;
    /** An object is used for 512 calls at most; a check of a sweep takes up to five. */
    private static final int CHECKS_AN_OBJECT = 100;

    private static final Due due = new Due("bounds of games and tickets");
    private static final Bounds bounds = new Bounds(due);

    public static void main(String[] args) {
        scenesAreAsTold();
        looksSeeEachPart();
        promise1NewObject();
        promise1ObjectsAreApart();
        promise2EveryGame();
        promise2Refused();
        promise2WhatGoesAndWhatStays();
        promise3Codes();
        promise3SixtySigns();
        promise4Wipe();
        promise5FirstSignThatCannotStand();
        promise5MoreMustCome();
        promise5SixTickets();
        promise5EveryDigitOfEveryGame();
        promise5EveryShortText();
        promise6EmptyPad();
        promise6Fault();
        promise6OneToSix();
        promise7Ticket();
        promise8EverySet();
        promise8Refused();
        promise8Kept();
        due.close();
    }

    private static TicketWheel of(int n, int t, int d, int r, String text) {
        TicketWheel x = new TicketWheel();
        x.game(n, t, d, r);
        Scene.hold(x, text);
        return x;
    }

    /** All other checks lean on the scenes. */
    private static void scenesAreAsTold() {
        for (Scene scene : Scene.values()) {
            TicketWheel x = scene.make();
            int[] want = {scene.n, scene.t, scene.d, scene.r, scene.tickets};
            for (int what = 1; what <= 5; what++) {
                due.equal(scene + " told " + what, x.told(what), want[what - 1]);
            }
            due.equal(scene + " sights", x.told(7), scene.sights);
        }
        due.equal("the brim's pad", Scene.BRIM.make().told(0), 60);
        due.holds("some draws fit the brim's sights", Scene.BRIM.make().fits(-1) > 1);
    }

    /** A look that missed a part of the state would let a refused call change it. */
    private static void looksSeeEachPart() {
        seen("a sign", x -> x.say('5'));
        seen("a wipe", x -> x.wipe());
        seen("tickets", x -> {
            x.wipe();
            return x.tickets();
        });
        seen("fond", x -> x.fond(2));
        seen("fond none", x -> x.fond(0));
        for (int k = 0; k <= 8; k++) {
            int right = k;
            seen("prize " + k, x -> x.prize(right, 71));
        }
        seen("a sight", x -> x.seen(1, 1, 1));
        seen("no sight", x -> x.forget());
        seen("image 0", x -> x.image(0));
        seen("image 1", x -> x.image(1));
        seen("an image restored", x -> x.restore(0));
        seen("a game", x -> x.game(6, 3, 4, 2));
        seen("another game", x -> x.game(6, 3, 4, 3));
    }

    private static void seen(String what, Bounds.Asked change) {
        TicketWheel x = Scene.SOME.make();
        change.of(x);
        due.holds("a look sees " + what, !Scene.look(x).equals(Scene.look(Scene.SOME.make())));
    }

    /** "Seven NUMBERS, three on a TICKET, three drawn, two RIGHT", none of what is "none at first". */
    private static void promise1NewObject() {
        TicketWheel x = new TicketWheel();
        int[] want = {0, 7, 3, 3, 2, 0, 0, 0};
        for (int what = 0; what < want.length; what++) {
            due.equal("1 at first: told " + what, x.told(what), want[what]);
        }
        for (int k = 0; k <= 8; k++) {
            due.equal("1 pence are 0 at first: for " + k, x.told(10 + k), 0);
        }
        due.equal("1 no ticket at first", x.ticket(0), UNKNOWN);
        due.equal("1 no fault in no signs", x.fault(), NONE);
        due.equal("1 no signs go", x.wipe(), 0);
        due.equal("1 no sights go", x.forget(), 0);
        due.equal("1 all draws fit no sights", x.fits(-1), 35);
        due.equal("1 fond of none", x.fond(0), 0);
        due.equal("1 image 0 not kept", x.restore(0), STATE);
        due.equal("1 image 1 not kept", x.restore(1), STATE);
        due.equal("1 none to change", x.changed(0), STATE);
        TicketWheel y = new TicketWheel();
        y.game(7, 3, 3, 2);
        bounds.sameLook("1 as after game 7 3 3 2", y, new TicketWheel());
    }

    private static void promise1ObjectsAreApart() {
        TicketWheel x = new TicketWheel();
        TicketWheel y = Scene.BRIM.make();
        bounds.sameLook("1 a second object changes nothing of the first", x, new TicketWheel());
        bounds.sameLook("1 and the first nothing of the second", y, Scene.BRIM.make());
    }

    /** Every game with bounds from below the least to above the greatest. */
    private static void promise2EveryGame() {
        TicketWheel x = new TicketWheel();
        int checks = 0;
        int[] kept = {7, 3, 3, 2};
        for (int n = -1; n <= 10; n++) {
            for (int t = -1; t <= 10; t++) {
                for (int d = -1; d <= 10; d++) {
                    for (int r = -1; r <= 10; r++) {
                        if (checks++ % CHECKS_AN_OBJECT == 0) {
                            x = new TicketWheel();
                            kept = new int[] {7, 3, 3, 2};
                        }
                        boolean fine = n >= 3 && n <= 8 && t >= 2 && t <= n - 1 && d >= 2 && d <= n - 1
                            && r >= 1 && r <= t && r <= d;
                        String told = "2 game " + n + " " + t + " " + d + " " + r;
                        due.equal(told, x.game(n, t, d, r), fine ? choose(n, d) : OUTSIDE);
                        kept = fine ? new int[] {n, t, d, r} : kept;
                        for (int what = 1; what <= 4; what++) {
                            due.equal(told + ": told " + what, x.told(what), kept[what - 1]);
                        }
                    }
                }
            }
        }
    }

    private static int choose(int n, int k) {
        return k == 0 || k == n ? 1 : choose(n - 1, k - 1) + choose(n - 1, k);
    }

    private static void promise2Refused() {
        bounds.stillInEach("2 n 3 to 8: just below", OUTSIDE, x -> x.game(2, 2, 2, 1));
        bounds.stillInEach("2 n 3 to 8: just below, the others fit", OUTSIDE, x -> x.game(2, 1, 1, 1));
        bounds.stillInEach("2 n 3 to 8: just above", OUTSIDE, x -> x.game(9, 3, 3, 2));
        bounds.stillInEach("2 t 2 to n less 1: just below", OUTSIDE, x -> x.game(7, 1, 3, 1));
        bounds.stillInEach("2 t 2 to n less 1: just above", OUTSIDE, x -> x.game(7, 7, 3, 2));
        bounds.stillInEach("2 t 2 to n less 1: just above, of three", OUTSIDE, x -> x.game(3, 3, 2, 1));
        bounds.stillInEach("2 d 2 to n less 1: just below", OUTSIDE, x -> x.game(7, 3, 1, 1));
        bounds.stillInEach("2 d 2 to n less 1: just above", OUTSIDE, x -> x.game(7, 3, 7, 2));
        bounds.stillInEach("2 d 2 to n less 1: just above, of three", OUTSIDE, x -> x.game(3, 2, 3, 1));
        bounds.stillInEach("2 r from 1 on: just below", OUTSIDE, x -> x.game(7, 3, 3, 0));
        bounds.stillInEach("2 r to t, the lesser: just above", OUTSIDE, x -> x.game(7, 3, 5, 4));
        bounds.stillInEach("2 r to d, the lesser: just above", OUTSIDE, x -> x.game(7, 5, 3, 4));
        bounds.stillInEach("2 r to t and d, alike: just above", OUTSIDE, x -> x.game(7, 3, 3, 4));
        for (int far : Bounds.FAR) {
            bounds.stillInEach("2 n " + far, OUTSIDE, x -> x.game(far, 3, 3, 2));
            bounds.stillInEach("2 t " + far, OUTSIDE, x -> x.game(7, far, 3, 2));
            bounds.stillInEach("2 d " + far, OUTSIDE, x -> x.game(7, 3, far, 2));
            bounds.stillInEach("2 r " + far, OUTSIDE, x -> x.game(7, 3, 3, far));
            bounds.stillInEach("2 all " + far, OUTSIDE, x -> x.game(far, far, far, far));
        }
        bounds.stillInEach("2 n least, t greatest", OUTSIDE, x -> x.game(LEAST, GREATEST, GREATEST, 1));
    }

    /** "TICKETS, FOND, SIGHTS go": also where there were none, and by the game there is. */
    private static void promise2WhatGoesAndWhatStays() {
        for (Scene scene : Scene.values()) {
            TicketWheel x = scene.make();
            int signs = x.told(0);
            int prize = x.told(18);
            int fault = x.fault();
            due.equal("2 the same game, " + scene, x.game(scene.n, scene.t, scene.d, scene.r), x.won(1));
            due.equal("2 tickets go, " + scene, x.told(5), 0);
            due.equal("2 no ticket is there, " + scene, x.ticket(0), UNKNOWN);
            due.equal("2 fond goes, " + scene, x.told(6), 0);
            due.equal("2 sights go, " + scene, x.told(7), 0);
            due.equal("2 all draws fit then, " + scene, x.fits(-1), x.won(1));
            due.equal("2 none is won then, " + scene, x.won(0), 0);
            due.equal("2 the first that could be has no need of fond, " + scene, x.more(0), (1 << scene.t) - 1);
            due.equal("2 signs stay, " + scene, x.told(0), signs);
            due.equal("2 their fault stays, " + scene, x.fault(), fault);
            due.equal("2 prizes stay, " + scene, x.told(18), prize);
            due.equal("2 image 0 stays, " + scene, x.restore(0),
                scene == Scene.FRESH || scene == Scene.SMALL ? STATE : 1);
            due.equal("2 image 1 stays, " + scene, x.restore(1), scene == Scene.BRIM ? 1 : STATE);
        }
    }

    /** "signs (codes 33 to 126)". */
    private static void promise3Codes() {
        TicketWheel x = new TicketWheel();
        for (int code = -300; code <= 400; code++) {
            boolean fine = code >= 33 && code <= 126;
            due.equal("3 code " + code, x.say(code), fine ? 1 : OUTSIDE);
            due.equal("3 signs after code " + code, x.told(0), fine ? 1 : 0);
            x.wipe();
            x = code % 100 == 0 ? new TicketWheel() : x;
        }
        // On the brim the pad is full, too: OUTSIDE is told ahead of FULL.
        bounds.beyondInEach("3 codes 33 to 126", 33, 126, OUTSIDE, (y, code) -> y.say(code));
        bounds.stillInEach("3 codes 33 to 126: none", OUTSIDE, y -> y.say(0));
        bounds.stillInEach("3 codes 33 to 126: a digit by its number", OUTSIDE, y -> y.say(1));
        bounds.stillInEach("3 codes 33 to 126: as a letter, wrapped", OUTSIDE, y -> y.say(65536 + '1'));
        bounds.stillInEach("3 codes 33 to 126: as a byte, wrapped", OUTSIDE, y -> y.say(256 + '1'));
    }

    /** "a PAD of up to 60 signs". */
    private static void promise3SixtySigns() {
        TicketWheel x = new TicketWheel();
        for (int signs = 1; signs <= 60; signs++) {
            due.equal("3 sign " + signs, x.say(signs % 2 == 0 ? 33 : 126), signs);
        }
        due.equal("3 the 61st", x.say('1'), FULL);
        due.equal("3 the 61st once more", x.say(126), FULL);
        due.equal("3 outside ahead of full, below", x.say(32), OUTSIDE);
        due.equal("3 outside ahead of full, above", x.say(127), OUTSIDE);
        due.equal("3 sixty stay", x.told(0), 60);
        due.equal("3 sixty go", x.wipe(), 60);
        due.equal("3 room again", x.say('1'), 1);
        for (int code = 33; code <= 126; code++) {
            int sign = code;
            bounds.still(Scene.BRIM, "3 full for " + code, FULL, y -> y.say(sign));
        }
        TicketWheel z = new TicketWheel();
        Scene.write(z, "1".repeat(59));
        due.equal("3 59 are not full", z.say('1'), 60);
        due.equal("3 60 are", z.say('1'), FULL);
    }

    /** "Signs go: how many there were." */
    private static void promise4Wipe() {
        for (int signs = 0; signs <= 60; signs++) {
            TicketWheel x = new TicketWheel();
            Scene.write(x, "~".repeat(signs));
            due.equal("4 signs that go", x.wipe(), signs);
            due.equal("4 none left of " + signs, x.told(0), 0);
            due.equal("4 none go of none, after " + signs, x.wipe(), 0);
            due.equal("4 no fault after " + signs, x.fault(), NONE);
        }
        bounds.still(Scene.FRESH, "4 an empty pad", 0, x -> x.wipe());
        TicketWheel y = Scene.BRIM.make();
        due.equal("4 sixty", y.wipe(), 60);
        due.equal("4 tickets stay", y.told(5), 6);
        due.equal("4 sights stay", y.told(7), 6);
        due.equal("4 fond stays", y.told(6), 147);
        due.equal("4 the first sign anew", y.say(';'), 1);
        due.equal("4 its fault", y.fault(), 0);
    }

    private static void faultIs(int n, int t, String text, int want) {
        TicketWheel x = new TicketWheel();
        x.game(n, t, 2, 1);
        Scene.write(x, text);
        due.equal("5 fault of " + text + " in a game of " + n + " " + t, x.fault(), want);
        due.equal("5 signs stay: " + text, x.told(0), text.length());
        due.holds("6 tickets refused: " + text, (x.tickets() == NO) == (want != NONE));
    }

    /** "the place (from 0 on) of the first sign that can not stand there". */
    private static void promise5FirstSignThatCannotStand() {
        faultIs(7, 3, "0", 0);
        faultIs(7, 3, "8", 0);
        faultIs(7, 3, ";", 0);
        faultIs(7, 3, "!", 0);
        faultIs(7, 3, "~", 0);
        faultIs(7, 3, "/", 0);
        faultIs(7, 3, ":", 0);
        faultIs(7, 3, "1;", 1);
        faultIs(7, 3, "12;", 2);
        faultIs(7, 3, "1230", 3);
        faultIs(7, 3, "1234", 3);
        faultIs(7, 3, "123:", 3);
        faultIs(7, 3, "123<", 3);
        faultIs(7, 3, "123,", 3);
        faultIs(7, 3, "123;;", 4);
        faultIs(7, 3, "123;0", 4);
        faultIs(7, 3, "123;8", 4);
        faultIs(7, 3, "11", 1);
        faultIs(7, 3, "21", 1);
        faultIs(7, 3, "20", 1);
        faultIs(7, 3, "132", 2);
        faultIs(7, 3, "133", 2);
        faultIs(7, 3, "77", 1);
        faultIs(7, 3, "78", 1);
        faultIs(7, 3, "0;0", 0);
        faultIs(7, 3, "12x;;;", 2);
        // The digit ahead in the TICKET ahead does not bind the next TICKET.
        faultIs(7, 3, "567;123", NONE);
        faultIs(7, 3, "567;567", NONE);
        faultIs(8, 7, "1234567;2345678", NONE);
        faultIs(8, 7, "12345678", 7);
        faultIs(8, 7, "1234569", 6);
    }

    /** "or the number of signs, if more must come", "also if too few greater ones are left". */
    private static void promise5MoreMustCome() {
        faultIs(7, 3, "", NONE);
        faultIs(7, 3, "1", 1);
        faultIs(7, 3, "12", 2);
        faultIs(7, 3, "123", NONE);
        faultIs(7, 3, "123;", 4);
        faultIs(7, 3, "123;5", 5);
        faultIs(7, 3, "123;56", 6);
        faultIs(7, 3, "7", 1);
        faultIs(7, 3, "6", 1);
        faultIs(7, 3, "67", 2);
        faultIs(7, 3, "17", 2);
        faultIs(7, 3, "67;", 2);
        faultIs(7, 3, "123;7", 5);
        faultIs(3, 2, "3", 1);
        faultIs(3, 2, "33", 1);
        faultIs(8, 7, "8", 1);
        faultIs(8, 7, "345678", 6);
        faultIs(8, 7, "3456789", 6);
    }

    /** "6 at most". */
    private static void promise5SixTickets() {
        String six = "123;123;123;123;123;123";
        faultIs(7, 3, six, NONE);
        faultIs(7, 3, six.substring(0, 19), NONE);
        faultIs(7, 3, six.substring(0, 20), 20);
        faultIs(7, 3, six.substring(0, 22), 22);
        faultIs(7, 3, six + ";", 23);
        faultIs(7, 3, six + ";123", 23);
        faultIs(7, 3, six + "4", 23);
        faultIs(3, 2, "12;12;12;13;13;23", NONE);
        faultIs(3, 2, "12;12;12;13;13;23;", 17);
        String longest = "1234567;2345678;1234568;1345678;1245678;1235678";
        faultIs(8, 7, longest, NONE);
        faultIs(8, 7, longest + ";", 47);
        faultIs(8, 7, longest + "8", 47);
        faultIs(8, 7, longest + "~".repeat(13), 47);
        faultIs(8, 7, longest.substring(0, 46), 46);
        faultIs(7, 3, "~".repeat(60), 0);
        faultIs(7, 3, "1".repeat(60), 1);
    }

    /** "a digit can, if it is a NUMBER": as the first sign, in each game. */
    private static void promise5EveryDigitOfEveryGame() {
        for (int n = 3; n <= 8; n++) {
            for (int t = 2; t < n; t++) {
                for (int digit = 0; digit <= 9; digit++) {
                    faultIs(n, t, "" + digit, digit >= 1 && digit <= n ? 1 : 0);
                    faultIs(n, t, "1" + digit, digit < 2 || digit > n ? 1 : t == 2 ? NONE : 2);
                }
            }
        }
    }

    /** Every text of four signs or fewer, in the smallest game and in one where tickets are longer. */
    private static void promise5EveryShortText() {
        String signs = "/012345:;~";
        for (int length = 0; length <= 4; length++) {
            int texts = (int) Math.pow(signs.length(), length);
            for (int text = 0; text < texts; text++) {
                StringBuilder built = new StringBuilder();
                for (int i = 0, left = text; i < length; i++, left /= signs.length()) {
                    built.append(signs.charAt(left % signs.length()));
                }
                everyShortText(built.toString(), 3, 2);
                everyShortText(built.toString(), 4, 3);
            }
        }
    }

    private static void everyShortText(String text, int n, int t) {
        TicketWheel x = new TicketWheel();
        Oracle o = new Oracle();
        x.game(n, t, 2, 1);
        o.game(n, t, 2, 1);
        for (int i = 0; i < text.length(); i++) {
            x.say(text.charAt(i));
            o.say(text.charAt(i));
        }
        String told = "5 " + text + " in a game of " + n + " " + t;
        due.equal(told, x.fault(), o.fault());
        due.equal(told + ": tickets", x.tickets(), o.tickets());
        due.equal(told + ": the first", x.ticket(0), o.ticket(0));
        due.equal(told + ": the second", x.ticket(1), o.ticket(1));
        due.equal(told + ": signs left", x.told(0), o.told(0));
    }

    /** "no signs are none". */
    private static void promise6EmptyPad() {
        bounds.still(Scene.FRESH, "6 none of none", 0, x -> x.tickets());
        for (Scene scene : Scene.values()) {
            TicketWheel x = scene.make();
            int fond = x.told(6);
            int prize = x.told(14);
            x.wipe();
            due.equal("6 none, " + scene, x.tickets(), 0);
            due.equal("6 none told, " + scene, x.told(5), 0);
            due.equal("6 no first, " + scene, x.ticket(0), UNKNOWN);
            due.equal("6 sights go with no tickets, " + scene, x.forget(), 0);
            due.equal("6 none won, " + scene, x.won(0), 0);
            due.equal("6 fond stays, " + scene, x.told(6), fond);
            due.equal("6 prizes stay, " + scene, x.told(14), prize);
        }
    }

    /** "NO: there is a FAULT." */
    private static void promise6Fault() {
        bounds.still(Scene.SOME, "6 more must come", NO, x -> x.tickets());
        bounds.still(Scene.BRIM, "6 a sign can't stand", NO, x -> x.tickets());
        TicketWheel x = Scene.SOME.make();
        due.equal("6 refused", x.tickets(), NO);
        due.equal("6 the sign that was missing", x.say('6'), 3);
        due.equal("6 no fault now", x.tickets(), 1);
        due.equal("6 the ticket", x.ticket(0), 35);
        due.equal("6 the second went", x.ticket(1), UNKNOWN);
        due.equal("6 sights went", x.told(7), 0);
    }

    private static void promise6OneToSix() {
        String text = "12;13;23;12;13;23";
        int[] want = {3, 5, 6, 3, 5, 6};
        for (int many = 1; many <= 6; many++) {
            TicketWheel x = Scene.SMALL.make();
            x.wipe();
            Scene.write(x, text.substring(0, 3 * many - 1));
            due.equal("6 so many", x.tickets(), many);
            due.equal("6 told " + many, x.told(5), many);
            due.equal("6 the pad is empty then, " + many, x.wipe(), 0);
            due.equal("6 sights go, " + many, x.told(7), 0);
            for (int i = 0; i <= 6; i++) {
                due.equal("6 ticket " + i + " of " + many, x.ticket(i), i < many ? want[i] : UNKNOWN);
            }
            due.equal("6 an empty pad becomes no tickets, " + many, x.tickets(), 0);
        }
    }

    private static void promise7Ticket() {
        bounds.beyondInEach("7 tickets from 0 on", 0, 5, UNKNOWN, (x, ticket) -> x.ticket(ticket));
        for (Scene scene : Scene.values()) {
            bounds.beyond(scene, "7 there is no such", 0, scene.tickets - 1, UNKNOWN,
                (x, ticket) -> x.ticket(ticket));
        }
        bounds.still(Scene.FRESH, "7 there is none", UNKNOWN, x -> x.ticket(0));
        bounds.still(Scene.SMALL, "7 the only one", 3, x -> x.ticket(0));
        bounds.still(Scene.SOME, "7 the first of two", 7, x -> x.ticket(0));
        bounds.still(Scene.SOME, "7 the last of two", 28, x -> x.ticket(1));
        bounds.still(Scene.BRIM, "7 the first of six", 15, x -> x.ticket(0));
        bounds.still(Scene.BRIM, "7 the last of six", 240, x -> x.ticket(5));
        due.equal("7 the greatest there is", of(8, 7, 2, 1, "2345678").ticket(0), 254);
        due.equal("7 the least there is", of(8, 2, 2, 1, "12").ticket(0), 3);
    }

    /** "NUMBERS there are, t at most": each set of each game. */
    private static void promise8EverySet() {
        for (int n = 3; n <= 8; n++) {
            for (int t = 2; t < n; t++) {
                TicketWheel x = new TicketWheel();
                int kept = 0;
                for (int set = -2; set <= 2 << n; set++) {
                    if ((set + 2) % CHECKS_AN_OBJECT == 0) {
                        x = of(n, t, 2, 1, "");
                        kept = 0;
                    }
                    boolean fine = set >= 0 && set < 1 << n && Integer.bitCount(set) <= t;
                    String told = "8 fond " + set + " in a game of " + n + " " + t;
                    due.equal(told, x.fond(set), fine ? kept : OUTSIDE);
                    kept = fine ? set : kept;
                    due.equal(told + ": kept", x.told(6), kept);
                    due.equal(told + ": on the ticket that is found", x.more(0) & kept, kept);
                }
            }
        }
    }

    private static void promise8Refused() {
        for (Scene scene : Scene.values()) {
            int all = (1 << scene.n) - 1;
            bounds.beyond(scene, "8 fond", 0, all, OUTSIDE, (x, set) -> x.fond(set));
            bounds.still(scene, "8 all numbers, too many", OUTSIDE, x -> x.fond(all));
            bounds.still(scene, "8 one more than a ticket has", OUTSIDE, x -> x.fond((2 << scene.t) - 1));
            bounds.still(scene, "8 the number above the last", OUTSIDE, x -> x.fond(1 << scene.n));
            bounds.still(scene, "8 it, and one there is", OUTSIDE, x -> x.fond((1 << scene.n) + 1));
            bounds.still(scene, "8 the sign bit", OUTSIDE, x -> x.fond(LEAST + 1));
            bounds.still(scene, "8 as they were", scene == Scene.SOME ? 1 : scene == Scene.BRIM ? 147 : 0,
                x -> x.fond(x.told(6)));
        }
    }

    private static void promise8Kept() {
        TicketWheel x = Scene.BRIM.make();
        due.equal("8 t of them, on the bound", x.fond(128 + 64 + 32 + 16), 147);
        due.equal("8 the last number alone", x.fond(128), 240);
        due.equal("8 the first alone", x.fond(1), 128);
        due.equal("8 none", x.fond(0), 1);
        due.equal("8 none again", x.fond(0), 0);
        due.equal("8 tickets stay", x.told(5), 6);
        due.equal("8 sights stay", x.told(7), 6);
        due.equal("8 signs stay", x.told(0), 60);
        TicketWheel y = Scene.BRIM.make();
        y.fond(3);
        due.equal("8 refused", y.fond(31), OUTSIDE);
        due.equal("8 which they were, past a refusal", y.fond(4), 3);
    }
}
