import java.math.BigInteger;
import java.util.ArrayList;
import java.util.HashMap;
import java.util.List;
import java.util.Map;
import java.util.TreeSet;

/**
 * The document once more, in its slowest form: sets are sets, and every question is answered by
 * going through all draws. It shares no code and no idea with the program.
 */
final class Oracle {
    private static final int UNKNOWN = -1, OUTSIDE = -2, STATE = -3, FULL = -4, NO = -5, NONE = -6;
    private static final long GONE_OUTSIDE = -1000000000000000002L;
    private static final int[][] COMMON = tableOfCommon();
    private static final Map<Integer, List<Integer>> ALL_SETS = new HashMap<>();

    private StringBuilder pad = new StringBuilder();
    private World world = new World();
    private final World[] images = new World[2];

    /** All but the pad. */
    private static final class World {
        int n = 7, t = 3, d = 3, r = 2, fond = 0;
        List<Integer> tickets = new ArrayList<>();
        List<int[]> sights = new ArrayList<>();
        int[] prizes = new int[9];

        World copy() {
            World w = new World();
            w.n = n;
            w.t = t;
            w.d = d;
            w.r = r;
            w.fond = fond;
            w.tickets = new ArrayList<>(tickets);
            w.sights = new ArrayList<>(sights);
            w.prizes = prizes.clone();
            return w;
        }
    }

    private static TreeSet<Integer> set(int bits) {
        TreeSet<Integer> set = new TreeSet<>();
        for (int number = 1; number <= 32; number++) {
            if ((bits >>> (number - 1)) % 2 != 0) {
                set.add(number);
            }
        }
        return set;
    }

    private static int common(int a, int b) {
        return COMMON[a][b];
    }

    private static int[][] tableOfCommon() {
        int[][] table = new int[256][256];
        for (int a = 0; a < 256; a++) {
            for (int b = 0; b < 256; b++) {
                TreeSet<Integer> both = set(a);
                both.retainAll(set(b));
                table[a][b] = both.size();
            }
        }
        return table;
    }

    private static List<Integer> allSets(int n, int size) {
        return new ArrayList<>(ALL_SETS.computeIfAbsent(n * 10 + size, key -> sets(n, size)));
    }

    private static List<Integer> sets(int n, int size) {
        List<Integer> list = new ArrayList<>();
        for (int bits = 0; bits < 256; bits++) {
            TreeSet<Integer> set = set(bits);
            if (set.size() == size && (set.isEmpty() || set.last() <= n)) {
                list.add(bits);
            }
        }
        return list;
    }

    private List<Integer> draws() {
        return allSets(world.n, world.d);
    }

    private List<Integer> couldBe() {
        List<Integer> list = new ArrayList<>();
        for (int ticket : allSets(world.n, world.t)) {
            if (set(ticket).containsAll(set(world.fond))) {
                list.add(ticket);
            }
        }
        return list;
    }

    private boolean wins(int ticket, int draw) {
        return common(ticket, draw) >= world.r;
    }

    private List<Integer> wonBy(List<Integer> tickets) {
        List<Integer> won = new ArrayList<>();
        for (int draw : draws()) {
            boolean any = false;
            for (int ticket : tickets) {
                any |= wins(ticket, draw);
            }
            if (any) {
                won.add(draw);
            }
        }
        return won;
    }

    private static List<Integer> without(List<Integer> list, int place) {
        List<Integer> rest = new ArrayList<>(list);
        rest.remove(place);
        return rest;
    }

    private static List<Integer> and(List<Integer> list, int one) {
        List<Integer> more = new ArrayList<>(list);
        more.add(one);
        return more;
    }

    private boolean isTicket(int ticket) {
        return ticket >= 0 && ticket < world.tickets.size();
    }

    private static long fraction(long upper, long lower, int part) {
        if (part != 0 && part != 1) {
            return GONE_OUTSIDE;
        }
        long divisor = BigInteger.valueOf(upper).gcd(BigInteger.valueOf(lower)).longValue();
        return (part == 0 ? upper : lower) / divisor;
    }

    int game(int n, int t, int d, int r) {
        if (n < 3 || n > 8 || t < 2 || t >= n || d < 2 || d >= n || r < 1 || r > t || r > d) {
            return OUTSIDE;
        }
        World w = new World();
        w.n = n;
        w.t = t;
        w.d = d;
        w.r = r;
        w.prizes = world.prizes;
        world = w;
        return draws().size();
    }

    int say(int sign) {
        if (sign < 33 || sign > 126) {
            return OUTSIDE;
        }
        if (pad.length() == 60) {
            return FULL;
        }
        pad.append((char) sign);
        return pad.length();
    }

    int wipe() {
        int many = pad.length();
        pad = new StringBuilder();
        return many;
    }

    /** Whether the text could be the beginning of some text of tickets, too few greater ones or not. */
    private boolean canBegin(String text) {
        String[] parts = text.split(";", -1);
        if (parts.length > 6) {
            return false;
        }
        for (int i = 0; i < parts.length; i++) {
            boolean last = i == parts.length - 1;
            if (parts[i].length() > world.t || !last && parts[i].length() != world.t) {
                return false;
            }
            char ahead = '0';
            for (char sign : parts[i].toCharArray()) {
                if (sign <= ahead || sign > (char) ('0' + world.n)) {
                    return false;
                }
                ahead = sign;
            }
        }
        return true;
    }

    int fault() {
        String text = pad.toString();
        for (int place = 0; place < text.length(); place++) {
            if (!canBegin(text.substring(0, place + 1))) {
                return place;
            }
        }
        String[] parts = text.split(";", -1);
        return text.isEmpty() || parts[parts.length - 1].length() == world.t ? NONE : text.length();
    }

    int tickets() {
        if (fault() != NONE) {
            return NO;
        }
        world.tickets.clear();
        world.sights.clear();
        if (pad.length() > 0) {
            for (String part : pad.toString().split(";")) {
                int bits = 0;
                for (char sign : part.toCharArray()) {
                    bits += (int) Math.pow(2, sign - '1');
                }
                world.tickets.add(bits);
            }
        }
        pad = new StringBuilder();
        return world.tickets.size();
    }

    int ticket(int ticket) {
        return isTicket(ticket) ? world.tickets.get(ticket) : UNKNOWN;
    }

    int fond(int numbers) {
        TreeSet<Integer> set = set(numbers);
        if (set.size() > world.t || !set.isEmpty() && set.last() > world.n) {
            return OUTSIDE;
        }
        int before = world.fond;
        world.fond = numbers;
        return before;
    }

    int right(int ticket, int draw) {
        if (!isTicket(ticket)) {
            return UNKNOWN;
        }
        return draws().contains(draw) ? common(world.tickets.get(ticket), draw) : OUTSIDE;
    }

    int won(int what) {
        List<Integer> won = wonBy(world.tickets);
        if (what == 0) {
            return won.size();
        }
        if (what == 1) {
            return draws().size();
        }
        if (what != 2) {
            return OUTSIDE;
        }
        List<Integer> missed = draws();
        missed.removeAll(won);
        return missed.isEmpty() ? NONE : missed.get(0);
    }

    long odds(int part) {
        return fraction(wonBy(world.tickets).size(), draws().size(), part);
    }

    int useless() {
        int bits = 0;
        for (int i = 0; i < world.tickets.size(); i++) {
            if (wonBy(without(world.tickets, i)).size() == wonBy(world.tickets).size()) {
                bits += 1 << i;
            }
        }
        return bits;
    }

    int often(int number) {
        if (number < 1 || number > world.n) {
            return UNKNOWN;
        }
        int many = 0;
        for (int ticket : world.tickets) {
            many += set(ticket).contains(number) ? 1 : 0;
        }
        return many;
    }

    int prize(int k, int pence) {
        if (k < 0 || k > 8 || pence < 0 || pence > 999) {
            return OUTSIDE;
        }
        int before = world.prizes[k];
        world.prizes[k] = pence;
        return before;
    }

    private int brings(int draw) {
        int pence = 0;
        for (int ticket : world.tickets) {
            pence += world.prizes[common(ticket, draw)];
        }
        return pence;
    }

    long mean(int part) {
        long pence = 0;
        for (int draw : draws()) {
            pence += brings(draw);
        }
        return fraction(pence, draws().size(), part);
    }

    /** All lists of so many of these, in the order of the document. */
    private static List<List<Integer>> choices(List<Integer> of, int many) {
        List<List<Integer>> lists = new ArrayList<>();
        if (many == 0) {
            lists.add(new ArrayList<>());
            return lists;
        }
        for (int i = 0; i < of.size(); i++) {
            for (List<Integer> rest : choices(of.subList(i + 1, of.size()), many - 1)) {
                List<Integer> list = new ArrayList<>();
                list.add(of.get(i));
                list.addAll(rest);
                lists.add(list);
            }
        }
        return lists;
    }

    int most(int k, int i) {
        if (k < 1 || k > 3) {
            return OUTSIDE;
        }
        List<Integer> best = null;
        for (List<Integer> choice : choices(couldBe(), k)) {
            if (best == null || wonBy(choice).size() > wonBy(best).size()) {
                best = choice;
            }
        }
        if (best == null) {
            return NONE;
        }
        return i == -1 ? wonBy(best).size() : i >= 0 && i < k ? best.get(i) : NONE;
    }

    int sure(int i) {
        for (int many = 1; many <= 4; many++) {
            for (List<Integer> choice : choices(couldBe(), many)) {
                if (wonBy(choice).size() == draws().size()) {
                    return i == -1 ? many : i >= 0 && i < many ? choice.get(i) : NONE;
                }
            }
        }
        return NONE;
    }

    int bound() {
        List<Integer> one = new ArrayList<>();
        one.add(allSets(world.n, world.t).get(0));
        return (int) Math.ceil(draws().size() / (double) wonBy(one).size());
    }

    int more(int what) {
        int best = -1;
        for (int ticket : couldBe()) {
            if (best < 0 || wonBy(and(world.tickets, ticket)).size() > wonBy(and(world.tickets, best)).size()) {
                best = ticket;
            }
        }
        return what == 0 ? best : what == 1 ? wonBy(and(world.tickets, best)).size() : OUTSIDE;
    }

    int changed(int what) {
        if (what < 0 || what > 2) {
            return OUTSIDE;
        }
        int[] best = {STATE, STATE, STATE};
        for (int i = 0; i < world.tickets.size(); i++) {
            for (int ticket : couldBe()) {
                int won = wonBy(and(without(world.tickets, i), ticket)).size();
                if (won > best[2]) {
                    best = new int[] {i, ticket, won};
                }
            }
        }
        return best[what];
    }

    int seen(int ticket, int k, int how) {
        if (!isTicket(ticket)) {
            return UNKNOWN;
        }
        if (k < 0 || k > 8 || how < 0 || how > 2) {
            return OUTSIDE;
        }
        if (world.sights.size() == 6) {
            return FULL;
        }
        world.sights.add(new int[] {ticket, k, how});
        return world.sights.size();
    }

    int forget() {
        int many = world.sights.size();
        world.sights.clear();
        return many;
    }

    private List<Integer> fitting() {
        List<Integer> list = new ArrayList<>();
        for (int draw : draws()) {
            boolean all = true;
            for (int[] sight : world.sights) {
                int right = common(world.tickets.get(sight[0]), draw);
                all &= sight[2] == 0 && right == sight[1]
                    || sight[2] == 1 && right >= sight[1]
                    || sight[2] == 2 && right < sight[1];
            }
            if (all) {
                list.add(draw);
            }
        }
        return list;
    }

    int fits(int i) {
        List<Integer> list = fitting();
        return i == -1 ? list.size() : i >= 0 && i < list.size() ? list.get(i) : NONE;
    }

    int surely(int what) {
        if (what < 0 || what > 1) {
            return OUTSIDE;
        }
        List<Integer> list = fitting();
        if (list.isEmpty()) {
            return NO;
        }
        int bits = 0;
        for (int number = 1; number <= world.n; number++) {
            boolean all = true;
            for (int draw : list) {
                all &= set(draw).contains(number) == (what == 0);
            }
            bits += all ? 1 << number - 1 : 0;
        }
        return bits;
    }

    int alone(int first, int second) {
        int end = 1 << world.tickets.size();
        if (first < 0 || first >= end || second < 0 || second >= end) {
            return OUTSIDE;
        }
        List<Integer> won = wonBy(pick(first));
        won.removeAll(wonBy(pick(second)));
        return won.size();
    }

    private List<Integer> pick(int bits) {
        List<Integer> list = new ArrayList<>();
        for (int number : set(bits)) {
            list.add(world.tickets.get(number - 1));
        }
        return list;
    }

    int year(int seed, int m, int what) {
        if (seed < 0 || seed > 9999 || m < 1 || m > 99 || what < 0 || what > 1) {
            return OUTSIDE;
        }
        BigInteger x = BigInteger.valueOf(seed);
        int won = 0;
        int pence = 0;
        for (int i = 0; i < m; i++) {
            x = x.multiply(BigInteger.valueOf(75)).add(BigInteger.valueOf(74)).mod(BigInteger.valueOf(65537));
            int draw = draws().get(x.intValue() % draws().size());
            won += wonBy(world.tickets).contains(draw) ? 1 : 0;
            pence += brings(draw);
        }
        return what == 0 ? won : pence;
    }

    int image(int n) {
        if (n != 0 && n != 1) {
            return OUTSIDE;
        }
        images[n] = world.copy();
        return 1;
    }

    int restore(int n) {
        if (n != 0 && n != 1) {
            return OUTSIDE;
        }
        if (images[n] == null) {
            return STATE;
        }
        world = images[n].copy();
        return 1;
    }

    int told(int what) {
        World w = world;
        int[] all = {pad.length(), w.n, w.t, w.d, w.r, w.tickets.size(), w.fond, w.sights.size()};
        if (what >= 0 && what < all.length) {
            return all[what];
        }
        return what >= 10 && what <= 18 ? w.prizes[what - 10] : OUTSIDE;
    }
}
