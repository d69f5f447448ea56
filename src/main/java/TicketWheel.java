/**
 * Lottery tickets: which draws they win, which tickets win most or all draws, and what can be
 * concluded about an unknown draw from what the tickets won.
 *
 * Sets of numbers are bits: number 1 is bit 0. The words ticket, draw, fond, sight and image are
 * those of the document.
 */
public final class TicketWheel {
    public static final int UNKNOWN = -1, OUTSIDE = -2, STATE = -3, FULL = -4, NO = -5, NONE = -6;
    public static final long GONE = -1000000000000000000L;

    private static final int LEAST_NUMBERS = 3;
    private static final int MOST_NUMBERS = 8;
    private static final int MOST_TICKETS = 6;
    private static final int MOST_SIGNS = 60;
    private static final int FIRST_SIGN = 33;
    private static final int LAST_SIGN = 126;
    private static final int MOST_SIGHTS = 6;
    private static final int MOST_PENCE = 999;
    private static final int MOST_CHOSEN = 3;
    private static final int MOST_SURE = 4;
    private static final int MOST_SEED = 9999;
    private static final int MOST_DRAWS_A_YEAR = 99;

    /** How many sets there can be at most: 4 numbers out of 8. */
    private static final int MOST_SETS = 70;

    private static final int EXACTLY = 0;
    private static final int OR_MORE = 1;
    private static final int FEWER = 2;

    private final Pad pad;
    private final Play play;
    private final Wheel wheel;
    private final Image imageZero;
    private final Image imageOne;

    public TicketWheel() {
        pad = new Pad();
        play = new Play();
        wheel = new Wheel();
        imageZero = new Image();
        imageOne = new Image();
        wheel.takeGame(play);
    }

    // ---- 1 games, tickets

    public int game(int n, int t, int d, int r) {
        if (!isWithin(n, LEAST_NUMBERS, MOST_NUMBERS)
                || !isWithin(t, 2, n - 1)
                || !isWithin(d, 2, n - 1)
                || !isWithin(r, 1, Math.min(t, d))) {
            return OUTSIDE;
        }
        play.begin(n, t, d, r);
        wheel.takeGame(play);
        wheel.takeTickets(play);
        return wheel.draws.size();
    }

    public int say(int sign) {
        if (!isWithin(sign, FIRST_SIGN, LAST_SIGN)) {
            return OUTSIDE;
        }
        if (pad.size() >= MOST_SIGNS) {
            return FULL;
        }
        pad.add(sign);
        return pad.size();
    }

    public int wipe() {
        int signs = pad.size();
        pad.clear();
        return signs;
    }

    public int fault() {
        return pad.findFault(play.n, play.t);
    }

    public int tickets() {
        if (pad.findFault(play.n, play.t) != NONE) {
            return NO;
        }
        pad.moveTo(play);
        wheel.takeTickets(play);
        return play.ticketCount;
    }

    public int ticket(int ticket) {
        return play.hasTicket(ticket) ? play.tickets.at(ticket) : UNKNOWN;
    }

    public int fond(int numbers) {
        if (!play.isOfNumbers(numbers) || Integer.bitCount(numbers) > play.t) {
            return OUTSIDE;
        }
        int before = play.fond;
        play.fond = numbers;
        wheel.takeGame(play);
        return before;
    }

    // ---- 2 what is won

    public int right(int ticket, int draw) {
        if (!play.hasTicket(ticket)) {
            return UNKNOWN;
        }
        if (!play.isDraw(draw)) {
            return OUTSIDE;
        }
        return play.countRight(ticket, draw);
    }

    public int won(int what) {
        switch (what) {
            case 0:
                return wheel.countWon(wheel.allTickets());
            case 1:
                return wheel.draws.size();
            case 2:
                return wheel.firstMissed();
            default:
                return OUTSIDE;
        }
    }

    public long odds(int part) {
        return tellFraction(wheel.countWon(wheel.allTickets()), wheel.draws.size(), part);
    }

    public int useless() {
        return wheel.findUseless();
    }

    public int often(int number) {
        return isWithin(number, 1, play.n) ? play.countTicketsWith(number) : UNKNOWN;
    }

    public int prize(int k, int pence) {
        if (!isWithin(k, 0, MOST_NUMBERS) || !isWithin(pence, 0, MOST_PENCE)) {
            return OUTSIDE;
        }
        int before = play.prizes.at(k);
        play.prizes.put(k, pence);
        return before;
    }

    public long mean(int part) {
        int pence = 0;
        for (int i = 0; i < wheel.draws.size(); i++) {
            pence += play.countPence(wheel.draws.at(i));
        }
        return tellFraction(pence, wheel.draws.size(), part);
    }

    // ---- 3 tickets that could be

    public int most(int k, int i) {
        if (!isWithin(k, 1, MOST_CHOSEN)) {
            return OUTSIDE;
        }
        Choice choice = wheel.search.choiceForMost(k);
        return i == -1 ? choice.wonOrNone() : choice.ticketOrNone(i);
    }

    public int sure(int i) {
        Choice choice = wheel.search.choiceForSure();
        return i == -1 ? choice.sizeOrNone() : choice.ticketOrNone(i);
    }

    public int bound() {
        int single = wheel.wonByOne();
        return single < 1 ? NONE : (wheel.draws.size() + single - 1) / single;
    }

    public int more(int what) {
        if (!isWithin(what, 0, 1)) {
            return OUTSIDE;
        }
        int held = wheel.allTickets();
        int best = wheel.bestBeside(held);
        return what == 0 ? wheel.possible.at(best) : wheel.countWonWith(held, best);
    }

    public int changed(int what) {
        if (!isWithin(what, 0, 2)) {
            return OUTSIDE;
        }
        if (play.ticketCount == 0) {
            return STATE;
        }
        int ticket = wheel.findTicketToChange();
        int others = wheel.allTickets() & ~(1 << ticket);
        int best = wheel.bestBeside(others);
        switch (what) {
            case 0:
                return ticket;
            case 1:
                return wheel.possible.at(best);
            default:
                return wheel.countWonWith(others, best);
        }
    }

    // ---- 4 what was seen, two, years

    public int seen(int ticket, int k, int how) {
        if (!play.hasTicket(ticket)) {
            return UNKNOWN;
        }
        if (!isWithin(k, 0, MOST_NUMBERS) || !isWithin(how, EXACTLY, FEWER)) {
            return OUTSIDE;
        }
        if (play.sightCount >= MOST_SIGHTS) {
            return FULL;
        }
        play.addSight(ticket, k, how);
        return play.sightCount;
    }

    public int forget() {
        int sights = play.sightCount;
        play.sightCount = 0;
        return sights;
    }

    public int fits(int i) {
        int fitting = 0;
        for (int place = 0; place < wheel.draws.size(); place++) {
            int draw = wheel.draws.at(place);
            if (play.holdsSights(draw)) {
                if (fitting == i) {
                    return draw;
                }
                fitting++;
            }
        }
        return i == -1 ? fitting : NONE;
    }

    public int surely(int what) {
        if (!isWithin(what, 0, 1)) {
            return OUTSIDE;
        }
        int all = play.allNumbers();
        int inEach = all;
        int inSome = 0;
        for (int place = 0; place < wheel.draws.size(); place++) {
            int draw = wheel.draws.at(place);
            if (play.holdsSights(draw)) {
                inEach &= draw;
                inSome |= draw;
            }
        }
        // Each draw has numbers, so that none in any draw means that no draw fits.
        if (inSome == 0) {
            return NO;
        }
        return what == 0 ? inEach : all & ~inSome;
    }

    public int alone(int first, int second) {
        int held = wheel.allTickets();
        if (!isPartOf(first, held) || !isPartOf(second, held)) {
            return OUTSIDE;
        }
        return wheel.countWon(first | second) - wheel.countWon(second);
    }

    public int year(int seed, int m, int what) {
        if (!isWithin(seed, 0, MOST_SEED)
                || !isWithin(m, 1, MOST_DRAWS_A_YEAR)
                || !isWithin(what, 0, 1)) {
            return OUTSIDE;
        }
        int draws = wheel.draws.size();
        int lot = seed;
        int won = 0;
        int pence = 0;
        for (int i = 0; i < m; i++) {
            lot = (75 * lot + 74) % 65537;
            int draw = wheel.draws.at(draws < 1 ? 0 : lot % draws);
            won += play.isWon(draw) ? 1 : 0;
            pence += play.countPence(draw);
        }
        return what == 0 ? won : pence;
    }

    public int image(int n) {
        if (!isWithin(n, 0, 1)) {
            return OUTSIDE;
        }
        Image image = pickImage(n);
        image.play.copyFrom(play);
        image.kept = true;
        return 1;
    }

    public int restore(int n) {
        if (!isWithin(n, 0, 1)) {
            return OUTSIDE;
        }
        Image image = pickImage(n);
        if (!image.kept) {
            return STATE;
        }
        play.copyFrom(image.play);
        wheel.takeGame(play);
        wheel.takeTickets(play);
        return 1;
    }

    public int told(int what) {
        if (isWithin(what, 10, 10 + MOST_NUMBERS)) {
            return play.prizes.at(what - 10);
        }
        switch (what) {
            case 0:
                return pad.size();
            case 1:
                return play.n;
            case 2:
                return play.t;
            case 3:
                return play.d;
            case 4:
                return play.r;
            case 5:
                return play.ticketCount;
            case 6:
                return play.fond;
            case 7:
                return play.sightCount;
            default:
                return OUTSIDE;
        }
    }

    private Image pickImage(int n) {
        return n == 0 ? imageZero : imageOne;
    }

    private static boolean isWithin(int value, int least, int greatest) {
        return value >= least && value <= greatest;
    }

    private static boolean isPartOf(int bits, int all) {
        return (bits & ~all) == 0;
    }

    private static long tellFraction(int upper, int lower, int part) {
        int divisor = commonDivisor(upper, lower);
        if (!isWithin(part, 0, 1) || divisor < 1) {
            return GONE + OUTSIDE;
        }
        return part == 0 ? upper / divisor : lower / divisor;
    }

    /** The greatest divisor of both. It is sought from below the lower number, which is small here. */
    private static int commonDivisor(int upper, int lower) {
        for (int divisor = lower; divisor > 1; divisor--) {
            if (upper % divisor == 0 && lower % divisor == 0) {
                return divisor;
            }
        }
        return 1;
    }

    /**
     * A row of whole numbers that looks at each place before it uses it: a place outside reads as
     * 0 and takes nothing.
     */
    private static final class Row {
        private final int[] cells;

        Row(int length) {
            cells = new int[Math.max(length, 0)];
        }

        int at(int place) {
            return place >= 0 && place < cells.length ? cells[place] : 0;
        }

        void put(int place, int value) {
            if (place >= 0 && place < cells.length) {
                cells[place] = value;
            }
        }

        void copyFrom(Row other) {
            for (int place = 0; place < cells.length; place++) {
                put(place, other.at(place));
            }
        }
    }

    /** All sets of so many numbers in which given numbers are, rising as bits. */
    private static final class Sets {
        private final Row members = new Row(MOST_SETS);
        private int size;

        void fill(int n, int each, int with) {
            int end = 1 << n;
            size = 0;
            for (int set = 0; set < end; set++) {
                if (Integer.bitCount(set) == each && isPartOf(with, set)) {
                    members.put(size, set);
                    size++;
                }
            }
        }

        int size() {
            return size;
        }

        int at(int place) {
            return members.at(place);
        }
    }

    /**
     * Rows of sets of draws, a draw told by its place among all draws. A row takes two longs, since
     * there can be more than 64 draws. A row outside is the empty set.
     */
    private static final class DrawSets {
        private final long[] low;
        private final long[] high;

        DrawSets(int rows) {
            low = new long[Math.max(rows, 0)];
            high = new long[Math.max(rows, 0)];
        }

        void clear(int row) {
            put(row, 0, 0);
        }

        void add(int row, int draw) {
            if (draw < 64) {
                put(row, lowAt(row) | 1L << draw, highAt(row));
            } else {
                put(row, lowAt(row), highAt(row) | 1L << draw - 64);
            }
        }

        /** The row becomes what is in either the one of these rows or the other of those. */
        void join(int row, int one, DrawSets others, int other) {
            put(row, lowAt(one) | others.lowAt(other), highAt(one) | others.highAt(other));
        }

        boolean has(int row, int draw) {
            long bits = draw < 64 ? lowAt(row) >>> draw : highAt(row) >>> draw - 64;
            return (bits & 1) != 0;
        }

        int count(int row) {
            return Long.bitCount(lowAt(row)) + Long.bitCount(highAt(row));
        }

        private long lowAt(int row) {
            return row >= 0 && row < low.length ? low[row] : 0;
        }

        private long highAt(int row) {
            return row >= 0 && row < high.length ? high[row] : 0;
        }

        private void put(int row, long lowBits, long highBits) {
            if (row >= 0 && row < low.length && row < high.length) {
                low[row] = lowBits;
                high[row] = highBits;
            }
        }
    }

    /** The signs that tell tickets. */
    private static final class Pad {
        private final Row signs = new Row(MOST_SIGNS);
        private int size;

        int size() {
            return size;
        }

        void add(int sign) {
            signs.put(size, sign);
            size++;
        }

        void clear() {
            size = 0;
        }

        /** The place of the first sign that can't stand there, or the end if more must come. */
        int findFault(int n, int t) {
            int numbers = 0;
            int last = 0;
            int whole = 0;
            for (int place = 0; place < size; place++) {
                int number = signs.at(place) - '0';
                if (numbers < t && isWithin(number, last + 1, n)) {
                    numbers++;
                    last = number;
                    whole += numbers == t ? 1 : 0;
                } else if (numbers == t && signs.at(place) == ';' && whole < MOST_TICKETS) {
                    numbers = 0;
                    last = 0;
                } else {
                    return place;
                }
            }
            return size == 0 || numbers == t ? NONE : size;
        }

        /** To be called only while there is no fault. */
        void moveTo(Play play) {
            play.dropTickets();
            int ticket = 0;
            for (int place = 0; place < size; place++) {
                if (signs.at(place) == ';') {
                    play.addTicket(ticket);
                    ticket = 0;
                } else {
                    ticket |= 1 << signs.at(place) - '1';
                }
            }
            if (size > 0) {
                play.addTicket(ticket);
            }
            clear();
        }
    }

    /** What an image keeps: game, tickets, fond, prizes and sights. */
    private static final class Play {
        private int n;
        private int t;
        private int d;
        private int r;
        private int fond;
        private int ticketCount;
        private final Row tickets = new Row(MOST_TICKETS);
        private final Row prizes = new Row(MOST_NUMBERS + 1);
        private int sightCount;
        private final Row sightTickets = new Row(MOST_SIGHTS);
        private final Row sightNumbers = new Row(MOST_SIGHTS);
        private final Row sightKinds = new Row(MOST_SIGHTS);

        Play() {
            begin(7, 3, 3, 2);
        }

        void begin(int numbers, int onTicket, int drawn, int toWin) {
            n = numbers;
            t = onTicket;
            d = drawn;
            r = toWin;
            fond = 0;
            dropTickets();
        }

        /** Sights are of tickets, so they go along. */
        void dropTickets() {
            ticketCount = 0;
            sightCount = 0;
        }

        void addTicket(int bits) {
            tickets.put(ticketCount, bits);
            ticketCount++;
        }

        void addSight(int ticket, int numbers, int kind) {
            sightTickets.put(sightCount, ticket);
            sightNumbers.put(sightCount, numbers);
            sightKinds.put(sightCount, kind);
            sightCount++;
        }

        int allNumbers() {
            return (1 << n) - 1;
        }

        boolean isOfNumbers(int bits) {
            return isPartOf(bits, allNumbers());
        }

        boolean isDraw(int bits) {
            return isOfNumbers(bits) && Integer.bitCount(bits) == d;
        }

        boolean hasTicket(int ticket) {
            return isWithin(ticket, 0, ticketCount - 1);
        }

        int countRight(int ticket, int draw) {
            return Integer.bitCount(tickets.at(ticket) & draw);
        }

        boolean isWon(int draw) {
            for (int ticket = 0; ticket < ticketCount; ticket++) {
                if (countRight(ticket, draw) >= r) {
                    return true;
                }
            }
            return false;
        }

        int countPence(int draw) {
            int pence = 0;
            for (int ticket = 0; ticket < ticketCount; ticket++) {
                pence += prizes.at(countRight(ticket, draw));
            }
            return pence;
        }

        int countTicketsWith(int number) {
            int count = 0;
            for (int ticket = 0; ticket < ticketCount; ticket++) {
                count += tickets.at(ticket) >> number - 1 & 1;
            }
            return count;
        }

        boolean holdsSights(int draw) {
            for (int sight = 0; sight < sightCount; sight++) {
                if (!holdsSight(sight, draw)) {
                    return false;
                }
            }
            return true;
        }

        private boolean holdsSight(int sight, int draw) {
            int rightNow = countRight(sightTickets.at(sight), draw);
            int told = sightNumbers.at(sight);
            switch (sightKinds.at(sight)) {
                case EXACTLY:
                    return rightNow == told;
                case OR_MORE:
                    return rightNow >= told;
                default:
                    return rightNow < told;
            }
        }

        void copyFrom(Play other) {
            n = other.n;
            t = other.t;
            d = other.d;
            r = other.r;
            fond = other.fond;
            ticketCount = other.ticketCount;
            tickets.copyFrom(other.tickets);
            prizes.copyFrom(other.prizes);
            sightCount = other.sightCount;
            sightTickets.copyFrom(other.sightTickets);
            sightNumbers.copyFrom(other.sightNumbers);
            sightKinds.copyFrom(other.sightKinds);
        }
    }

    private static final class Image {
        private final Play play = new Play();
        private boolean kept;
    }

    /** All draws of a game, the tickets that could be and those there are, and which draws they win. */
    private static final class Wheel {
        private static final int JOINED = 0;
        private static final int TRIED = 1;

        private final Sets draws = new Sets();
        private final Sets possible = new Sets();
        private final DrawSets wonByPossible = new DrawSets(MOST_SETS);
        private final DrawSets wonByHeld = new DrawSets(MOST_TICKETS);
        private final DrawSets work = new DrawSets(2);
        private final Search search = new Search(possible, wonByPossible);
        private int held;

        /** To be called when the game or the fond numbers are new. */
        void takeGame(Play play) {
            draws.fill(play.n, play.d, 0);
            possible.fill(play.n, play.t, play.fond);
            for (int i = 0; i < possible.size(); i++) {
                markWon(wonByPossible, i, possible.at(i), play.r);
            }
            search.begin(draws.size(), wonByOne());
        }

        /** To be called when the tickets are new. */
        void takeTickets(Play play) {
            held = play.ticketCount;
            for (int i = 0; i < held; i++) {
                markWon(wonByHeld, i, play.tickets.at(i), play.r);
            }
        }

        private void markWon(DrawSets sets, int row, int ticket, int r) {
            sets.clear(row);
            for (int i = 0; i < draws.size(); i++) {
                if (Integer.bitCount(ticket & draws.at(i)) >= r) {
                    sets.add(row, i);
                }
            }
        }

        /** How many draws one ticket wins: each ticket of a game as many. */
        int wonByOne() {
            return wonByPossible.count(0);
        }

        int allTickets() {
            return (1 << held) - 1;
        }

        private void joinHeld(int tickets) {
            work.clear(JOINED);
            for (int i = 0; i < held; i++) {
                if ((tickets >> i & 1) != 0) {
                    work.join(JOINED, JOINED, wonByHeld, i);
                }
            }
        }

        int countWon(int tickets) {
            joinHeld(tickets);
            return work.count(JOINED);
        }

        int countWonWith(int tickets, int added) {
            joinHeld(tickets);
            work.join(TRIED, JOINED, wonByPossible, added);
            return work.count(TRIED);
        }

        int firstMissed() {
            joinHeld(allTickets());
            for (int i = 0; i < draws.size(); i++) {
                if (!work.has(JOINED, i)) {
                    return draws.at(i);
                }
            }
            return NONE;
        }

        int findUseless() {
            int all = allTickets();
            int won = countWon(all);
            int found = 0;
            for (int i = 0; i < held; i++) {
                if (countWon(all & ~(1 << i)) == won) {
                    found |= 1 << i;
                }
            }
            return found;
        }

        /** Which of the tickets that could be wins most together with these, the least of several. */
        int bestBeside(int tickets) {
            joinHeld(tickets);
            int best = 0;
            int most = -1;
            for (int i = 0; i < possible.size(); i++) {
                work.join(TRIED, JOINED, wonByPossible, i);
                if (work.count(TRIED) > most) {
                    most = work.count(TRIED);
                    best = i;
                }
            }
            return best;
        }

        int findTicketToChange() {
            int ticket = 0;
            int most = -1;
            for (int i = 0; i < held; i++) {
                int others = allTickets() & ~(1 << i);
                int won = countWonWith(others, bestBeside(others));
                if (won > most) {
                    most = won;
                    ticket = i;
                }
            }
            return ticket;
        }
    }

    /** Tickets that a search chose, kept until the tickets that could be are others. */
    private static final class Choice {
        private final Row tickets = new Row(MOST_SURE);
        private int size;
        private int won;
        private boolean found;
        private boolean sought;

        /** Only tickets that win more draws than the floor are worth choosing. */
        void begin(int wanted, int floor) {
            size = wanted;
            won = floor;
            found = false;
            sought = true;
        }

        int wonOrNone() {
            return found ? won : NONE;
        }

        int sizeOrNone() {
            return found ? size : NONE;
        }

        int ticketOrNone(int i) {
            return found && isWithin(i, 0, size - 1) ? tickets.at(i) : NONE;
        }
    }

    /** Looks for few tickets that win many draws. */
    private static final class Search {
        private final Sets possible;
        private final DrawSets wins;
        private final DrawSets reached = new DrawSets(MOST_SURE + 1);
        private final Row chosen = new Row(MOST_SURE);
        private final Choice mostOne = new Choice();
        private final Choice mostTwo = new Choice();
        private final Choice mostThree = new Choice();
        private final Choice fewest = new Choice();
        private int allDraws;
        private int single;

        Search(Sets tickets, DrawSets wonByTickets) {
            possible = tickets;
            wins = wonByTickets;
        }

        void begin(int draws, int wonByOne) {
            allDraws = draws;
            single = wonByOne;
            mostOne.sought = false;
            mostTwo.sought = false;
            mostThree.sought = false;
            fewest.sought = false;
        }

        Choice choiceForMost(int k) {
            Choice choice = k == 1 ? mostOne : k == 2 ? mostTwo : mostThree;
            if (!choice.sought) {
                choice.begin(k, -1);
                choose(this, choice, 0, 0);
            }
            return choice;
        }

        Choice choiceForSure() {
            if (!fewest.sought) {
                fewest.found = false;
                for (int size = 1; size <= MOST_SURE && !fewest.found; size++) {
                    fewest.begin(size, allDraws - 1);
                    choose(this, fewest, 0, 0);
                }
            }
            return fewest;
        }

        /**
         * Tries all tickets from a place on behind those chosen. The first choice that wins most
         * is the least, since places rise with bits, so a later one must win more.
         */
        private static void choose(Search search, Choice choice, int depth, int from) {
            int wanted = choice.size - depth;
            if (wanted < 1 || depth >= MOST_SURE) {
                return;
            }
            int end = search.possible.size() - wanted;
            for (int i = from; i <= end && search.couldReach(depth, wanted) > choice.won; i++) {
                search.chosen.put(depth, search.possible.at(i));
                search.reached.join(depth + 1, depth, search.wins, i);
                if (wanted == 1) {
                    search.offer(choice, depth + 1);
                } else {
                    choose(search, choice, depth + 1, i + 1);
                }
            }
        }

        /** No ticket adds more draws than one wins alone. */
        private int couldReach(int depth, int wanted) {
            return Math.min(allDraws, reached.count(depth) + wanted * single);
        }

        private void offer(Choice choice, int depth) {
            int won = reached.count(depth);
            if (won > choice.won) {
                choice.won = won;
                choice.found = true;
                choice.tickets.copyFrom(chosen);
            }
        }
    }
}
