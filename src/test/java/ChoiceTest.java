import java.util.ArrayList;
import java.util.BitSet;
import java.util.List;

/** Most and sure in each game there is and with each fond, beside all choices gone through. */
public final class ChoiceTest {
    private static final int NONE = -6;
    /** A fond takes some twenty calls, and nothing is promised about an object after its 512th. */
    private static final int FONDS_AN_OBJECT = 20;
    private static final Due due = new Due("choices");

    private static int draws;
    private static int[] tickets;
    private static long[] low;
    private static long[] high;

    public static void main(String[] args) {
        for (int n = 3; n <= 8; n++) {
            for (int t = 2; t < n; t++) {
                for (int d = 2; d < n; d++) {
                    for (int r = 1; r <= Math.min(t, d); r++) {
                        eachFond(n, t, d, r);
                    }
                }
            }
        }
        due.close();
    }

    private static void eachFond(int n, int t, int d, int r) {
        TicketWheel x = null;
        for (int fond = 0; fond < 1 << n; fond++) {
            if (fond % FONDS_AN_OBJECT == 0) {
                x = new TicketWheel();
                x.game(n, t, d, r);
            }
            if (Integer.bitCount(fond) > t) {
                continue;
            }
            x.fond(fond);
            prepare(n, t, d, r, fond);
            String where = n + " " + t + " " + d + " " + r + " fond " + fond;
            int[] best = new int[5];
            int[][] first = new int[5][];
            for (int k = 1; k <= 4; k++) {
                if (k < 4 || best[3] < draws) {
                    seek(k, best, first);
                }
            }
            int sure = 1;
            while (sure <= 4 && best[sure] < draws) {
                sure++;
            }
            for (int k = 1; k <= 3; k++) {
                for (int i = -1; i <= k; i++) {
                    due.equal("most " + k + " " + i + " of " + where, x.most(k, i),
                        first[k] == null || i == k ? NONE : i < 0 ? best[k] : tickets[first[k][i]]);
                }
            }
            for (int i = -1; i <= 4; i++) {
                due.equal("sure " + i + " of " + where, x.sure(i),
                    sure > 4 || i >= sure ? NONE : i < 0 ? sure : tickets[first[sure][i]]);
            }
        }
    }

    private static void prepare(int n, int t, int d, int r, int fond) {
        List<Integer> list = new ArrayList<>();
        List<BitSet> wins = new ArrayList<>();
        for (int ticket = 0; ticket < 1 << n; ticket++) {
            if (Integer.bitCount(ticket) == t && (ticket | fond) == ticket) {
                BitSet won = new BitSet();
                draws = 0;
                for (int draw = 0; draw < 1 << n; draw++) {
                    if (Integer.bitCount(draw) == d) {
                        won.set(draws++, Integer.bitCount(draw & ticket) >= r);
                    }
                }
                list.add(ticket);
                wins.add(won);
            }
        }
        tickets = new int[list.size()];
        low = new long[list.size()];
        high = new long[list.size()];
        for (int i = 0; i < tickets.length; i++) {
            tickets[i] = list.get(i);
            long[] longs = wins.get(i).toLongArray();
            low[i] = longs.length > 0 ? longs[0] : 0;
            high[i] = longs.length > 1 ? longs[1] : 0;
        }
    }

    /** All choices of k tickets, in order and without a short cut. */
    private static void seek(int k, int[] best, int[][] first) {
        int[] at = new int[k];
        for (int i = 0; i < k; i++) {
            at[i] = i;
        }
        best[k] = -1;
        while (at[k - 1] < tickets.length) {
            long a = 0;
            long b = 0;
            for (int place : at) {
                a |= low[place];
                b |= high[place];
            }
            int won = Long.bitCount(a) + Long.bitCount(b);
            if (won > best[k]) {
                best[k] = won;
                first[k] = at.clone();
            }
            int turn = k - 1;
            while (turn > 0 && at[turn] == tickets.length - k + turn) {
                turn--;
            }
            at[turn]++;
            for (int i = turn + 1; i < k; i++) {
                at[i] = at[i - 1] + 1;
            }
        }
    }
}
