/** Long runs of calls, chosen by a fixed rule, on the program and on the oracle. */
public final class OracleTest {
    /** So that the last turn, which may be a text of tickets, ends by the 512th call. */
    private static final int CALLS = 512 - 60;
    private static final Due due = new Due("oracle");
    private static final int[] FAR = {Integer.MIN_VALUE, Integer.MAX_VALUE, -7, 64, 255, 256, 1 << 30, -256};

    private static long state;

    public static void main(String[] args) {
        for (int run = 0; run < 150; run++) {
            state = 1000003L * run + 17;
            // Going through all choices of tickets is slow in the oracle, so most runs stay small.
            play(run, run % 5 == 0 ? 8 : 6);
        }
        due.close();
    }

    private static int pick(int from, int to) {
        state = state * 6364136223846793005L + 1442695040888963407L;
        return from + (int) ((state >>> 33) % Math.max(1, to - from + 1));
    }

    /** Mostly a number of this span, now and then one beside it, seldom one far off. */
    private static int near(int from, int to) {
        int dice = pick(0, 59);
        return dice == 0 ? FAR[pick(0, FAR.length - 1)] : dice < 4 ? pick(from - 2, to + 2) : pick(from, to);
    }

    private static void play(int run, int mostNumbers) {
        TicketWheel x = new TicketWheel();
        Oracle o = new Oracle();
        Call call = new Call(run, x, o);
        for (int i = 0; i < CALLS; ) {
            i += call.next(mostNumbers);
        }
    }

    private static final class Call {
        private final int run;
        private final TicketWheel x;
        private final Oracle o;

        Call(int run, TicketWheel x, Oracle o) {
            this.run = run;
            this.x = x;
            this.o = o;
        }

        private void same(String call, long got, long want) {
            due.equal("run " + run + " " + call, got, want);
        }

        int next(int mostNumbers) {
            int kind = pick(0, 99);
            if (kind < 4) {
                game(mostNumbers);
            } else if (kind < 8) {
                return tickets();
            } else if (kind < 12) {
                int sign = pick(0, 9) == 0 ? near(33, 126) : pick('0', ';');
                same("say " + sign, x.say(sign), o.say(sign));
            } else if (kind < 16) {
                int fond = pick(0, 1) == 0 ? 1 << pick(0, 7) : near(0, 255);
                same("fond " + fond, x.fond(fond), o.fond(fond));
            } else if (kind < 24) {
                int ticket = near(0, 3);
                int k = near(0, 3);
                int how = near(0, 2);
                same("seen " + ticket + " " + k + " " + how, x.seen(ticket, k, how), o.seen(ticket, k, how));
            } else if (kind < 28) {
                int k = near(0, 8);
                int pence = near(0, 999);
                same("prize " + k + " " + pence, x.prize(k, pence), o.prize(k, pence));
            } else if (kind < 29) {
                int n = near(0, 1);
                same("image " + n, x.image(n), o.image(n));
            } else if (kind < 31) {
                int n = near(0, 1);
                same("restore " + n, x.restore(n), o.restore(n));
            } else if (kind < 33) {
                same("forget", x.forget(), o.forget());
            } else if (kind < 34) {
                same("wipe", x.wipe(), o.wipe());
            } else {
                ask(mostNumbers < 8);
            }
            return 1;
        }

        private void game(int mostNumbers) {
            int n = pick(0, 9) == 0 ? near(3, 8) : pick(3, mostNumbers);
            int t = near(2, n - 1);
            int d = near(2, n - 1);
            int r = near(1, Math.max(1, Math.min(t, d)));
            if (n > mostNumbers && n <= 8) {
                n = mostNumbers;
            }
            same("game " + n + " " + t + " " + d + " " + r, x.game(n, t, d, r), o.game(n, t, d, r));
        }

        private int tickets() {
            int calls = 2;
            same("wipe", x.wipe(), o.wipe());
            int n = o.told(1);
            int t = o.told(2);
            int many = pick(1, 7);
            for (int i = 0; i < many; i++) {
                calls += i > 0 ? sayBoth(';') : 0;
                int left = t;
                for (int number = 1; number <= n; number++) {
                    if (pick(1, n - number + 1) <= left) {
                        calls += sayBoth('0' + number);
                        left--;
                    }
                }
            }
            if (pick(0, 4) == 0) {
                calls += sayBoth(pick('0', ';'));
            }
            same("fault", x.fault(), o.fault());
            same("tickets", x.tickets(), o.tickets());
            return calls + 1;
        }

        private int sayBoth(int sign) {
            same("say " + sign, x.say(sign), o.say(sign));
            return 1;
        }

        private void ask(boolean small) {
            int a = near(-1, 6);
            int b = near(0, 63);
            int c = near(0, 2);
            String told = " " + a + " " + b + " " + c;
            switch (pick(0, 21)) {
                case 0 -> same("fault", x.fault(), o.fault());
                case 1 -> same("tickets", x.tickets(), o.tickets());
                case 2 -> same("ticket" + told, x.ticket(a), o.ticket(a));
                case 3 -> same("right" + told, x.right(a, b), o.right(a, b));
                case 4, 5 -> same("won" + told, x.won(c), o.won(c));
                case 6 -> same("odds" + told, x.odds(c), o.odds(c));
                case 7 -> same("useless", x.useless(), o.useless());
                case 8 -> same("often" + told, x.often(a), o.often(a));
                case 9 -> same("mean" + told, x.mean(c), o.mean(c));
                case 10 -> {
                    int k = near(1, small ? 3 : 2);
                    if (small || k != 3) {
                        same("most " + k + told, x.most(k, c - 1), o.most(k, c - 1));
                    }
                }
                case 11 -> {
                    if (small) {
                        same("sure" + told, x.sure(a), o.sure(a));
                    }
                }
                case 12 -> same("bound", x.bound(), o.bound());
                case 13, 14 -> same("more" + told, x.more(c), o.more(c));
                case 15, 16 -> same("changed" + told, x.changed(c), o.changed(c));
                case 17 -> same("fits" + told, x.fits(a), o.fits(a));
                case 18 -> same("surely" + told, x.surely(c), o.surely(c));
                case 19 -> {
                    int held = (1 << o.told(5)) - 1;
                    int first = pick(0, 19) == 0 ? near(-1, 63) : pick(0, held);
                    int second = pick(0, 19) == 0 ? near(-1, 63) : pick(0, held);
                    same("alone " + first + " " + second, x.alone(first, second), o.alone(first, second));
                }
                case 20 -> {
                    int seed = near(0, 9999);
                    int m = near(1, 99);
                    same("year " + seed + " " + m + told, x.year(seed, m, c), o.year(seed, m, c));
                }
                default -> same("told" + told, x.told(a * 3), o.told(a * 3));
            }
        }
    }
}
