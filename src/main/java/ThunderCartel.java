import java.util.NoSuchElementException;

/** A cartel that sells thunder. The promises of the document say what each call answers. */
public final class ThunderCartel {
    private static final int MOST_MEMBERS = 7;
    private static final int MOST_CAPACITY = 99;
    private static final int MOST_VOTES = 20;
    private static final int MOST_TOTAL = 300;
    private static final int MOST_UNITS = 99;
    private static final int MOST_LINKS = 12;
    private static final int MOST_THRESHOLD = 99;
    private static final int SEEDS = 1024;
    private static final int RULES = 2;
    private static final int COINS_A_UNIT = 3;

    private final Office office;
    private final State state;
    private final State beforeScript;
    private final State snapshot;
    private final History history;
    private final Votes voting;
    private final CommonFine commonFine;
    private final Script script;
    private final StringBuilder line;
    private boolean hasSnapshot;
    private boolean hasFault;
    private int keptFault;
    private Refusal latestDenial;

    public ThunderCartel() {
        office = new Office();
        state = office.state;
        beforeScript = new State();
        snapshot = new State();
        history = new History();
        voting = new Votes();
        commonFine = new CommonFine();
        script = new Script();
        line = new StringBuilder();
    }

    // ---- members

    public int addMember(int capacity, int votes) throws IllegalArgumentException, UnsupportedOperationException {
        return change(Command.JOIN, capacity, votes);
    }

    public int pardon(int member) throws IndexOutOfBoundsException, UnsupportedOperationException {
        return change(Command.PARDON, member, 0);
    }

    public int memberCount() {
        return state.count;
    }

    public int capacity(int member) throws IndexOutOfBoundsException {
        demandMember(member);
        return state.members[member].capacity;
    }

    public int votes(int member) throws IndexOutOfBoundsException {
        demandMember(member);
        return state.members[member].votes;
    }

    public char standing(int member) throws IndexOutOfBoundsException {
        demandMember(member);
        Member one = state.members[member];
        if (one.isLoyal()) {
            return 'l';
        }
        return one.isActive() ? 'w' : 'b';
    }

    public int warnings(int member) throws IndexOutOfBoundsException, NoSuchElementException {
        demandMember(member);
        int warnings = state.members[member].warnings;
        if (warnings == 0) {
            throw new NoSuchElementException("the member is not warned");
        }
        return warnings;
    }

    public int barredMonths(int member) throws IndexOutOfBoundsException, NoSuchElementException {
        demandMember(member);
        int months = state.members[member].barredMonths;
        if (months == 0) {
            throw new NoSuchElementException("the member is not barred");
        }
        return months;
    }

    public int memberByExcess(int rank) throws NoSuchElementException {
        for (int i = 0; i < state.count; i++) {
            if (state.membersAheadOf(i) == rank) {
                return i;
            }
        }
        throw new NoSuchElementException("no such rank");
    }

    // ---- quotas and sales

    public int setRule(int rule) throws IllegalArgumentException, UnsupportedOperationException {
        return change(Command.RULE, rule, 0);
    }

    public int assign(int total) throws IllegalArgumentException {
        return change(Command.ASSIGN, total, 0);
    }

    public int sell(int member, int units)
            throws IndexOutOfBoundsException, IllegalArgumentException, UnsupportedOperationException {
        return change(Command.SELL, member, units);
    }

    public int close() {
        return change(Command.CLOSE, 0, 0);
    }

    public int quotaBy(int member, int total, int rule)
            throws IndexOutOfBoundsException, IllegalArgumentException {
        demandMember(member);
        if (!isWithin(total, 0, MOST_TOTAL) || !isWithin(rule, 0, RULES - 1)) {
            throw new IllegalArgumentException("the total or the rule is out of range");
        }
        office.apportionment.apportion(state, total, rule);
        return office.apportionment.quotas[member];
    }

    public int quota(int member) throws IndexOutOfBoundsException {
        demandMember(member);
        return state.members[member].quota;
    }

    public int sales(int member) throws IndexOutOfBoundsException {
        demandMember(member);
        return state.members[member].sales;
    }

    public int excess(int member) throws IndexOutOfBoundsException {
        demandMember(member);
        return state.members[member].unitsAbove();
    }

    // ---- audits and links

    public int audit(int count) throws IllegalArgumentException, UnsupportedOperationException {
        return change(Command.AUDIT, count, 0);
    }

    public int setSeed(int seed) throws IllegalArgumentException {
        return change(Command.SEED, seed, 0);
    }

    public int drawnMember(int place) throws NoSuchElementException {
        // the places are numbered as the members are, so a place is looked at like an index
        if (!state.hasMember(place)) {
            throw new NoSuchElementException("there are not so many members");
        }
        office.drawMembers(place + 1);
        return office.drawn[place];
    }

    public int link(int first, int second)
            throws IndexOutOfBoundsException, IllegalArgumentException, UnsupportedOperationException {
        return change(Command.LINK, first, second);
    }

    public int unlink(int first, int second)
            throws IndexOutOfBoundsException, IllegalArgumentException, UnsupportedOperationException {
        return change(Command.CUT, first, second);
    }

    public int linkCount() {
        return state.links.total();
    }

    public boolean areLinked(int first, int second) throws IndexOutOfBoundsException {
        demandMember(first);
        demandMember(second);
        return state.links.connects(first, second);
    }

    public int fewestWatchers() {
        return state.links.fewestBySets(state.count);
    }

    public int fewestWatchersByBranching() {
        return Links.fewestFrom(state.links, state.count, 0, 0);
    }

    // ---- votes and shares

    public int setThreshold(int votes) throws IllegalArgumentException, UnsupportedOperationException {
        return change(Command.LIMIT, votes, 0);
    }

    public int winningCoalitions() {
        return voting.winners(state);
    }

    public int swings(int member) throws IndexOutOfBoundsException, NoSuchElementException {
        demandMember(member);
        if (!state.members[member].isActive()) {
            throw new NoSuchElementException("the member is barred");
        }
        return voting.swingsBySets(state, member);
    }

    public int swingsByCounts(int member) throws IndexOutOfBoundsException, NoSuchElementException {
        demandMember(member);
        if (!state.members[member].isActive()) {
            throw new NoSuchElementException("the member is barred");
        }
        return voting.swingsByWays(state, member);
    }

    public int leastDifference() {
        return voting.differenceBySets(state);
    }

    public int leastDifferenceBySums() {
        return voting.differenceBySums(state);
    }

    public int share(int member) throws IndexOutOfBoundsException {
        demandMember(member);
        return commonFine.byOrders(state, member);
    }

    public int shareBySteps(int member) throws IndexOutOfBoundsException {
        demandMember(member);
        return commonFine.bySteps(state, member);
    }

    // ---- accounts

    public int month() {
        return state.month;
    }

    public int soldTotal() {
        return state.withinUnits + state.finedUnits;
    }

    public int withinTotal() {
        return state.withinUnits;
    }

    public int finedTotal() {
        return state.finedUnits;
    }

    public int fines() {
        return state.finedUnits * COINS_A_UNIT;
    }

    public double meanSales() throws ArithmeticException {
        if (state.count == 0) {
            throw new ArithmeticException("there are no members");
        }
        int sum = 0;
        for (int i = 0; i < state.count; i++) {
            sum += state.members[i].sales;
        }
        return (double) sum / (double) state.count;
    }

    public float finedShare() throws ArithmeticException {
        int sold = state.withinUnits + state.finedUnits;
        if (sold == 0) {
            throw new ArithmeticException("no units were sold");
        }
        return (float) state.finedUnits / (float) sold;
    }

    // ---- texts and output lines

    public int feed(char character) throws IllegalStateException {
        if (script.isFull()) {
            throw new IllegalStateException("the text buffer is full");
        }
        return script.append(character);
    }

    public int execute() throws IllegalArgumentException, UnsupportedOperationException {
        boolean matches = script.parse();
        script.empty();
        if (!matches) {
            hasFault = true;
            keptFault = script.position;
            throw new IllegalArgumentException("the text does not match the grammar");
        }
        beforeScript.copyFrom(state);
        Refusal refusal = script.run(office);
        if (refusal != null) {
            state.copyFrom(beforeScript);
            latestDenial = refusal;
            throw new UnsupportedOperationException("a command of the text failed");
        }
        history.keep(beforeScript);
        return script.commandCount;
    }

    public int faultPosition() throws NoSuchElementException {
        if (!hasFault) {
            throw new NoSuchElementException("no fault position was kept yet");
        }
        return keptFault;
    }

    public int writeMember(int member) throws IndexOutOfBoundsException {
        demandMember(member);
        Member one = state.members[member];
        line.setLength(0);
        line.append(member).append(':').append(one.sales);
        line.append('/').append(one.quota);
        line.append('/').append(one.capacity);
        line.append('v').append(one.votes);
        for (int i = 0; i < one.warnings; i++) {
            line.append('!');
        }
        for (int i = 0; i < one.barredMonths; i++) {
            line.append('x');
        }
        return line.length();
    }

    public char lineCharacter(int index) throws IndexOutOfBoundsException {
        if (index < 0 || index >= line.length()) {
            throw new IndexOutOfBoundsException("no such index");
        }
        return line.charAt(index);
    }

    // ---- the latest denial

    public int denial() throws NoSuchElementException {
        if (latestDenial == null) {
            throw new NoSuchElementException("nothing was denied yet");
        }
        return latestDenial.number;
    }

    public int denialDetail() throws NoSuchElementException {
        if (latestDenial == null) {
            throw new NoSuchElementException("nothing was denied yet");
        }
        return latestDenial.detail;
    }

    public int denialCause() throws NoSuchElementException {
        if (latestDenial == null || latestDenial.cause == null) {
            throw new NoSuchElementException("there is no denial with a cause");
        }
        return latestDenial.cause.number;
    }

    // ---- undo and snapshots

    public int undo() throws IllegalStateException {
        if (history.count == 0) {
            throw new IllegalStateException("no change can be undone");
        }
        history.takeBack(state);
        return history.count;
    }

    public int undoCount() {
        return history.count;
    }

    public int saveSnapshot() {
        snapshot.copyFrom(state);
        hasSnapshot = true;
        return state.count;
    }

    public int restoreSnapshot() throws IllegalStateException {
        if (!hasSnapshot) {
            throw new IllegalStateException("there is no snapshot");
        }
        state.copyFrom(snapshot);
        history.forget();
        return state.count;
    }

    private int change(Command command, int first, int second) {
        Refusal refusal = office.refusal(command, first, second);
        if (refusal != null) {
            if (refusal.number == Refusal.NO_MEMBER) {
                throw new IndexOutOfBoundsException("no such member");
            }
            if (refusal.number == Refusal.BAD_VALUE) {
                throw new IllegalArgumentException("a value is out of range");
            }
            latestDenial = refusal;
            throw new UnsupportedOperationException("denied");
        }
        history.keep(state);
        return office.carryOut(command, first, second);
    }

    private void demandMember(int member) {
        if (!state.hasMember(member)) {
            throw new IndexOutOfBoundsException("no such member");
        }
    }

    private static boolean isWithin(int value, int least, int most) {
        return value >= least && value <= most;
    }

    /** Why a call is refused: a denial by its number of the document, or a wrong argument by one below 0. */
    private static final class Refusal {
        static final int NO_MEMBER = -1;
        static final int BAD_VALUE = -2;
        static final int LIMIT_REACHED = 1;
        static final int IS_BARRED = 2;
        static final int OVER_CAPACITY = 3;
        static final int LINK_STATE = 4;
        static final int IS_LOYAL = 5;
        static final int TOO_FEW = 6;
        static final int IS_PRESENT = 7;
        static final int COMMAND_FAILED = 8;
        static final int OTHER_EXCEPTION = 9;

        final int number;
        final int detail;
        final Refusal cause;

        Refusal(int number, int detail, Refusal cause) {
            this.number = number;
            this.detail = detail;
            this.cause = cause;
        }

        static Refusal ofCommand(int index, Refusal refusal) {
            Refusal cause = refusal.number > 0 ? refusal : new Refusal(OTHER_EXCEPTION, 0, null);
            return new Refusal(COMMAND_FAILED, index, cause);
        }
    }

    private static final class Member {
        static final int MOST_WARNINGS = 2;
        static final int MONTHS_OF_BAR = 2;

        int capacity;
        int votes;
        int quota;
        int sales;
        int warnings;
        int barredMonths;

        void enter(int itsCapacity, int itsVotes) {
            capacity = itsCapacity;
            votes = itsVotes;
            quota = 0;
            sales = 0;
            forgive();
        }

        boolean isActive() {
            return barredMonths == 0;
        }

        boolean isLoyal() {
            return barredMonths == 0 && warnings == 0;
        }

        int unitsAbove() {
            return Math.max(0, sales - quota);
        }

        void forgive() {
            warnings = 0;
            barredMonths = 0;
        }

        void warn() {
            if (warnings < MOST_WARNINGS) {
                warnings++;
            } else {
                warnings = 0;
                barredMonths = MONTHS_OF_BAR;
            }
        }

        void improve() {
            if (warnings > 0) {
                warnings--;
            } else if (barredMonths > 0) {
                barredMonths--;
            }
        }

        void copyFrom(Member other) {
            capacity = other.capacity;
            votes = other.votes;
            quota = other.quota;
            sales = other.sales;
            warnings = other.warnings;
            barredMonths = other.barredMonths;
        }
    }

    /** Everything that changes can change. */
    private static final class State {
        static final int FIRST_THRESHOLD = 10;

        final Member[] members;
        final Links links;
        int count;
        int rule;
        int seed;
        int threshold;
        int month;
        int withinUnits;
        int finedUnits;

        State() {
            members = new Member[MOST_MEMBERS];
            for (int i = 0; i < members.length; i++) {
                members[i] = new Member();
            }
            links = new Links();
            threshold = FIRST_THRESHOLD;
        }

        void copyFrom(State other) {
            for (int i = 0; i < members.length; i++) {
                members[i].copyFrom(other.members[i]);
            }
            links.copyFrom(other.links);
            count = other.count;
            rule = other.rule;
            seed = other.seed;
            threshold = other.threshold;
            month = other.month;
            withinUnits = other.withinUnits;
            finedUnits = other.finedUnits;
        }

        boolean hasMember(int index) {
            return index >= 0 && index < count;
        }

        int loyalCount() {
            int loyal = 0;
            for (int i = 0; i < count; i++) {
                loyal += members[i].isLoyal() ? 1 : 0;
            }
            return loyal;
        }

        int activeSet() {
            int set = 0;
            for (int i = 0; i < count; i++) {
                set |= members[i].isActive() ? 1 << i : 0;
            }
            return set;
        }

        int membersAheadOf(int index) {
            int ahead = 0;
            for (int i = 0; i < count; i++) {
                ahead += isAhead(i, index) ? 1 : 0;
            }
            return ahead;
        }

        private boolean isAhead(int first, int second) {
            Member one = members[first];
            Member other = members[second];
            if (one.unitsAbove() != other.unitsAbove()) {
                return one.unitsAbove() > other.unitsAbove();
            }
            if (one.sales != other.sales) {
                return one.sales > other.sales;
            }
            return first < second;
        }
    }

    private static final class Links {
        // row i holds the set of the members that are linked with member i
        final int[] partners = new int[MOST_MEMBERS];

        void copyFrom(Links other) {
            System.arraycopy(other.partners, 0, partners, 0, partners.length);
        }

        boolean connects(int first, int second) {
            return (partners[first] >> second & 1) == 1;
        }

        void flip(int first, int second) {
            partners[first] ^= 1 << second;
            partners[second] ^= 1 << first;
        }

        int total() {
            int ends = 0;
            for (int i = 0; i < partners.length; i++) {
                ends += Integer.bitCount(partners[i]);
            }
            return ends / 2;
        }

        int fewestBySets(int count) {
            int fewest = count;
            for (int set = 0; set < 1 << count; set++) {
                if (firstUnwatched(set) < 0) {
                    fewest = Math.min(fewest, Integer.bitCount(set));
                }
            }
            return fewest;
        }

        /** The first member with a link that the set does not watch, or -1. */
        private int firstUnwatched(int set) {
            for (int i = 0; i < partners.length; i++) {
                if ((set >> i & 1) == 0 && (partners[i] & ~set) != 0) {
                    return i;
                }
            }
            return -1;
        }

        private static int fewestFrom(Links links, int count, int set, int depth) {
            int first = links.firstUnwatched(set);
            // each level takes one member more, so none is left below the depth count
            if (first < 0 || depth >= count) {
                return depth;
            }
            // the links of first to members of the set are watched: second is outside of it
            int open = links.partners[first] & ~set;
            int second = open & -open;
            int withFirst = fewestFrom(links, count, set | 1 << first, depth + 1);
            int withSecond = fewestFrom(links, count, set | second, depth + 1);
            return Math.min(withFirst, withSecond);
        }
    }

    /** The two rules of apportionment; the quotas of the last one stay in its row. */
    private static final class Apportionment {
        final int[] quotas = new int[MOST_MEMBERS];
        private final int[] remainders = new int[MOST_MEMBERS];

        void apportion(State state, int total, int rule) {
            for (int i = 0; i < quotas.length; i++) {
                quotas[i] = 0;
            }
            int sum = 0;
            for (int i = 0; i < state.count; i++) {
                sum += state.members[i].isActive() ? state.members[i].capacity : 0;
            }
            if (sum == 0) {
                return;
            }
            if (rule == 0) {
                giveByRemainders(state, total, sum);
            } else {
                giveOneByOne(state, total);
            }
        }

        private void giveByRemainders(State state, int total, int sum) {
            if (sum == 0) {
                return;
            }
            int left = total;
            for (int i = 0; i < state.count; i++) {
                // -1 keeps the barred ones behind every remainder
                remainders[i] = -1;
                if (state.members[i].isActive()) {
                    int product = total * state.members[i].capacity;
                    quotas[i] = product / sum;
                    remainders[i] = product % sum;
                    left -= quotas[i];
                }
            }
            for (int i = 0; i < state.count; i++) {
                if (remainders[i] >= 0 && remaindersAheadOf(i, state.count) < left) {
                    quotas[i]++;
                }
            }
        }

        private int remaindersAheadOf(int index, int count) {
            int ahead = 0;
            for (int i = 0; i < count; i++) {
                boolean isGreater = remainders[i] > remainders[index];
                boolean isEarlier = remainders[i] == remainders[index] && i < index;
                ahead += isGreater || isEarlier ? 1 : 0;
            }
            return ahead;
        }

        private void giveOneByOne(State state, int total) {
            for (int unit = 0; unit < total; unit++) {
                int next = -1;
                for (int i = 0; i < state.count; i++) {
                    if (state.members[i].isActive() && (next < 0 || isGreater(state, i, next))) {
                        next = i;
                    }
                }
                if (next >= 0) {
                    quotas[next]++;
                }
            }
        }

        private boolean isGreater(State state, int first, int second) {
            // a / b > c / d as a * d > c * b: both divisors are at least 1
            return state.members[first].capacity * (quotas[second] + 1)
                    > state.members[second].capacity * (quotas[first] + 1);
        }
    }

    private static final class Votes {
        // row v counts the coalitions with v votes
        private final int[] ways = new int[MOST_MEMBERS * MOST_VOTES + 1];

        int winners(State state) {
            int active = state.activeSet();
            int winners = 0;
            for (int set = 0; set < 1 << state.count; set++) {
                if ((set & ~active) == 0 && votesOf(state, set) >= state.threshold) {
                    winners++;
                }
            }
            return winners;
        }

        int swingsBySets(State state, int member) {
            int others = state.activeSet() & ~(1 << member);
            int swings = 0;
            for (int set = 0; set < 1 << state.count; set++) {
                if ((set & ~others) == 0 && isSwing(state, votesOf(state, set), member)) {
                    swings++;
                }
            }
            return swings;
        }

        int swingsByWays(State state, int member) {
            countWays(state, state.activeSet() & ~(1 << member));
            int swings = 0;
            for (int votes = 0; votes < ways.length; votes++) {
                if (isSwing(state, votes, member)) {
                    swings += ways[votes];
                }
            }
            return swings;
        }

        int differenceBySets(State state) {
            int active = state.activeSet();
            int all = votesOf(state, active);
            int least = all;
            for (int set = 0; set < 1 << state.count; set++) {
                if ((set & ~active) == 0) {
                    least = Math.min(least, Math.abs(all - 2 * votesOf(state, set)));
                }
            }
            return least;
        }

        int differenceBySums(State state) {
            int active = state.activeSet();
            int all = votesOf(state, active);
            int least = all;
            countWays(state, active);
            for (int votes = 0; votes < ways.length; votes++) {
                if (ways[votes] > 0) {
                    least = Math.min(least, Math.abs(all - 2 * votes));
                }
            }
            return least;
        }

        private static boolean isSwing(State state, int votes, int member) {
            return votes < state.threshold && votes + state.members[member].votes >= state.threshold;
        }

        private static int votesOf(State state, int set) {
            int sum = 0;
            for (int i = 0; i < state.count; i++) {
                sum += (set >> i & 1) == 1 ? state.members[i].votes : 0;
            }
            return sum;
        }

        private void countWays(State state, int set) {
            for (int i = 0; i < ways.length; i++) {
                ways[i] = 0;
            }
            ways[0] = 1;
            for (int i = 0; i < state.count; i++) {
                if ((set >> i & 1) == 1) {
                    addVoter(state.members[i].votes);
                }
            }
        }

        private void addVoter(int votes) {
            if (votes < 1) {
                return;
            }
            // downwards, so that the voter is in each coalition once only
            for (int sum = ways.length - 1; sum >= votes; sum--) {
                ways[sum] += ways[sum - votes];
            }
        }
    }

    private static final class CommonFine {
        private final int[] units = new int[MOST_MEMBERS];
        private int count;

        int byOrders(State state, int member) {
            readUnits(state);
            return sumOverOrders(this, member, 0, 0, 0, 0);
        }

        int bySteps(State state, int member) {
            readUnits(state);
            int orders = 1;
            for (int i = 2; i <= count; i++) {
                orders *= i;
            }
            int share = 0;
            int level = 0;
            for (int step = 0; step < count && level < units[member]; step++) {
                int next = nextLevel(level);
                int bearers = bearersOf(next);
                if (bearers > 0) {
                    share += (next - level) * (orders / bearers);
                }
                level = next;
            }
            return share;
        }

        private void readUnits(State state) {
            count = state.count;
            for (int i = 0; i < count; i++) {
                units[i] = state.members[i].unitsAbove();
            }
        }

        /** The contributions of the member in all orders that begin with the members of the set. */
        private static int sumOverOrders(CommonFine fine, int member, int depth, int set, int greatest, int own) {
            if (depth >= fine.count) {
                return own;
            }
            int sum = 0;
            for (int i = 0; i < fine.count; i++) {
                if ((set >> i & 1) == 0) {
                    int grown = Math.max(greatest, fine.units[i]);
                    int itsOwn = i == member ? grown - greatest : own;
                    sum += sumOverOrders(fine, member, depth + 1, set | 1 << i, grown, itsOwn);
                }
            }
            return sum;
        }

        /** The smallest excess above the level, or the level itself if there is none. */
        private int nextLevel(int level) {
            int next = level;
            for (int i = 0; i < count; i++) {
                if (units[i] > level && (next == level || units[i] < next)) {
                    next = units[i];
                }
            }
            return next;
        }

        private int bearersOf(int level) {
            int bearers = 0;
            for (int i = 0; i < count; i++) {
                bearers += units[i] >= level ? 1 : 0;
            }
            return bearers;
        }
    }

    /** The changes, each with the pattern of its command: D is a digit, N a number, L a long. */
    private enum Command {
        JOIN("join N N"),
        ASSIGN("assign L"),
        RULE("rule D"),
        SELL("sell D N"),
        AUDIT("audit D"),
        CLOSE("close"),
        LINK("link D-D"),
        CUT("cut D-D"),
        PARDON("pardon D"),
        LIMIT("limit N"),
        SEED("seed L");

        private static final Command[] ALL = values();

        final String pattern;

        Command(String pattern) {
            this.pattern = pattern;
        }
    }

    /** Says why a change is refused, and carries it out; carryOut is for changes that are not refused. */
    private static final class Office {
        final State state = new State();
        final Apportionment apportionment = new Apportionment();
        final int[] drawn = new int[MOST_MEMBERS];

        Refusal refusal(Command command, int first, int second) {
            switch (command) {
                case JOIN:
                    return refusalOfJoin(first, second);
                case ASSIGN:
                    return refusalOfRange(first, 0, MOST_TOTAL);
                case RULE:
                    return refusalOfValue(first, 0, RULES - 1, state.rule);
                case SELL:
                    return refusalOfSale(first, second);
                case AUDIT:
                    return refusalOfAudit(first);
                case LINK:
                    return refusalOfLink(first, second);
                case CUT:
                    return refusalOfCut(first, second);
                case PARDON:
                    return refusalOfPardon(first);
                case LIMIT:
                    return refusalOfValue(first, 1, MOST_THRESHOLD, state.threshold);
                case SEED:
                    return refusalOfRange(first, 0, SEEDS - 1);
                default:
                    return null;
            }
        }

        int carryOut(Command command, int first, int second) {
            switch (command) {
                case JOIN:
                    return enter(first, second);
                case ASSIGN:
                    return assignTotal(first);
                case RULE:
                    return changeRule(first);
                case SELL:
                    return sellUnits(first, second);
                case AUDIT:
                    return auditMembers(first);
                case LINK:
                case CUT:
                    return flipLink(first, second);
                case PARDON:
                    return forgive(first);
                case LIMIT:
                    return changeThreshold(first);
                case SEED:
                    return changeSeed(first);
                default:
                    return closeMonth();
            }
        }

        private static Refusal refusalOfRange(int value, int least, int most) {
            return isWithin(value, least, most) ? null : new Refusal(Refusal.BAD_VALUE, 0, null);
        }

        private static Refusal refusalOfValue(int value, int least, int most, int present) {
            if (!isWithin(value, least, most)) {
                return new Refusal(Refusal.BAD_VALUE, 0, null);
            }
            return value != present ? null : new Refusal(Refusal.IS_PRESENT, present, null);
        }

        private Refusal refusalOfJoin(int capacity, int votes) {
            if (!isWithin(capacity, 1, MOST_CAPACITY) || !isWithin(votes, 1, MOST_VOTES)) {
                return new Refusal(Refusal.BAD_VALUE, 0, null);
            }
            return state.count < MOST_MEMBERS ? null : new Refusal(Refusal.LIMIT_REACHED, MOST_MEMBERS, null);
        }

        private Refusal refusalOfPardon(int member) {
            if (!state.hasMember(member)) {
                return new Refusal(Refusal.NO_MEMBER, 0, null);
            }
            return state.members[member].isLoyal() ? new Refusal(Refusal.IS_LOYAL, member, null) : null;
        }

        private Refusal refusalOfSale(int member, int units) {
            if (!state.hasMember(member)) {
                return new Refusal(Refusal.NO_MEMBER, 0, null);
            }
            if (!isWithin(units, 1, MOST_UNITS)) {
                return new Refusal(Refusal.BAD_VALUE, 0, null);
            }
            Member seller = state.members[member];
            if (!seller.isActive()) {
                return new Refusal(Refusal.IS_BARRED, seller.barredMonths, null);
            }
            int room = seller.capacity - seller.sales;
            return units <= room ? null : new Refusal(Refusal.OVER_CAPACITY, room, null);
        }

        private Refusal refusalOfAudit(int count) {
            if (!isWithin(count, 1, MOST_MEMBERS)) {
                return new Refusal(Refusal.BAD_VALUE, 0, null);
            }
            return count <= state.count ? null : new Refusal(Refusal.TOO_FEW, state.count, null);
        }

        private Refusal refusalOfPair(int first, int second) {
            if (!state.hasMember(first) || !state.hasMember(second)) {
                return new Refusal(Refusal.NO_MEMBER, 0, null);
            }
            return first != second ? null : new Refusal(Refusal.BAD_VALUE, 0, null);
        }

        private Refusal refusalOfLink(int first, int second) {
            Refusal refusal = refusalOfPair(first, second);
            if (refusal != null) {
                return refusal;
            }
            int links = state.links.total();
            if (state.links.connects(first, second)) {
                return new Refusal(Refusal.LINK_STATE, links, null);
            }
            return links < MOST_LINKS ? null : new Refusal(Refusal.LIMIT_REACHED, MOST_LINKS, null);
        }

        private Refusal refusalOfCut(int first, int second) {
            Refusal refusal = refusalOfPair(first, second);
            if (refusal != null) {
                return refusal;
            }
            boolean linked = state.links.connects(first, second);
            return linked ? null : new Refusal(Refusal.LINK_STATE, state.links.total(), null);
        }

        private int enter(int capacity, int votes) {
            int index = state.count;
            state.members[index].enter(capacity, votes);
            state.count++;
            return index;
        }

        private int forgive(int member) {
            state.members[member].forgive();
            return state.loyalCount();
        }

        private int changeRule(int rule) {
            int before = state.rule;
            state.rule = rule;
            return before;
        }

        private int changeThreshold(int threshold) {
            int before = state.threshold;
            state.threshold = threshold;
            return before;
        }

        private int changeSeed(int seed) {
            int before = state.seed;
            state.seed = seed;
            return before;
        }

        private int assignTotal(int total) {
            apportionment.apportion(state, total, state.rule);
            int different = 0;
            for (int i = 0; i < state.count; i++) {
                different += state.members[i].quota != apportionment.quotas[i] ? 1 : 0;
                state.members[i].quota = apportionment.quotas[i];
            }
            return different;
        }

        private int sellUnits(int member, int units) {
            state.members[member].sales += units;
            return state.members[member].sales;
        }

        private int closeMonth() {
            int fined = 0;
            for (int i = 0; i < state.count; i++) {
                Member one = state.members[i];
                int above = one.unitsAbove();
                fined += above;
                state.withinUnits += one.sales - above;
                if (above == 0) {
                    one.improve();
                }
                one.sales = 0;
            }
            state.finedUnits += fined;
            state.month++;
            return fined * COINS_A_UNIT;
        }

        private int auditMembers(int count) {
            state.seed = drawMembers(count);
            int caught = 0;
            for (int place = 0; place < count; place++) {
                Member one = state.members[drawn[place]];
                if (one.isActive() && one.unitsAbove() > 0) {
                    one.warn();
                    caught++;
                }
            }
            return caught;
        }

        private int flipLink(int first, int second) {
            state.links.flip(first, second);
            return state.links.total();
        }

        /** Fills the row drawn with that many members, at most all, and returns the seed afterwards. */
        int drawMembers(int count) {
            int seed = state.seed;
            int members = state.count;
            if (members == 0) {
                return seed;
            }
            int chosen = 0;
            for (int place = 0; place < count && place < members; place++) {
                seed = (seed * 109 + 89) % SEEDS;
                int member = seed % members;
                for (int step = 0; step < members && (chosen >> member & 1) == 1; step++) {
                    member = (member + 1) % members;
                }
                chosen |= 1 << member;
                drawn[place] = member;
            }
            return seed;
        }
    }

    /** The text buffer, and the commands that were read from it last. */
    private static final class Script {
        static final int MOST_CHARACTERS = 60;
        // no command is shorter than "close" with a semicolon
        static final int MOST_COMMANDS = MOST_CHARACTERS / 6 + 1;

        private final char[] text = new char[MOST_CHARACTERS];
        private final Command[] commands = new Command[MOST_COMMANDS];
        private final int[] firsts = new int[MOST_COMMANDS];
        private final int[] seconds = new int[MOST_COMMANDS];
        private int length;
        int commandCount;
        int position;

        boolean isFull() {
            return length >= text.length;
        }

        int append(char character) {
            if (length < text.length) {
                text[length] = character;
                length++;
            }
            return length;
        }

        void empty() {
            length = 0;
        }

        /** Reads the commands; if the text does not match, the position is its fault position afterwards. */
        boolean parse() {
            commandCount = 0;
            position = 0;
            for (int i = 0; i < MOST_COMMANDS; i++) {
                if (!readCommand(i)) {
                    return false;
                }
                commandCount = i + 1;
                if (position >= length) {
                    return true;
                }
                if (text[position] != ';') {
                    return false;
                }
                position++;
            }
            return false;
        }

        /** Runs the commands until one is refused, and returns the denial of the text, or null. */
        Refusal run(Office office) {
            for (int i = 0; i < commandCount; i++) {
                Refusal refusal = office.refusal(commands[i], firsts[i], seconds[i]);
                if (refusal != null) {
                    return Refusal.ofCommand(i, refusal);
                }
                office.carryOut(commands[i], firsts[i], seconds[i]);
            }
            return null;
        }

        private boolean readCommand(int index) {
            int start = position;
            int farthest = start;
            for (Command command : Command.ALL) {
                position = start;
                if (matches(command, index)) {
                    commands[index] = command;
                    return true;
                }
                farthest = Math.max(farthest, position);
            }
            position = farthest;
            return false;
        }

        /** Goes on to the end of the command, or to the first character that cannot continue it. */
        private boolean matches(Command command, int index) {
            int first = -1;
            int second = -1;
            for (int i = 0; i < command.pattern.length(); i++) {
                char sign = command.pattern.charAt(i);
                int digits = digitsOf(sign);
                if (digits > 0) {
                    int value = readNumber(digits);
                    if (value < 0) {
                        return false;
                    }
                    second = first < 0 ? second : value;
                    first = first < 0 ? value : first;
                } else if (position < length && text[position] == sign) {
                    position++;
                } else {
                    return false;
                }
            }
            firsts[index] = first;
            seconds[index] = second;
            return true;
        }

        private static int digitsOf(char sign) {
            if (sign == 'D') {
                return 1;
            }
            if (sign == 'N') {
                return 2;
            }
            return sign == 'L' ? 4 : 0;
        }

        /** Reads as many digits as there are, at most so many, or returns -1 if there is none. */
        private int readNumber(int most) {
            int value = 0;
            int read = 0;
            for (int i = 0; i < most && position < length; i++) {
                char digit = text[position];
                if (digit < '0' || digit > '9') {
                    break;
                }
                value = value * 10 + (digit - '0');
                position++;
                read++;
            }
            return read == 0 ? -1 : value;
        }
    }

    /** The states before the latest changes, in a ring. */
    private static final class History {
        static final int MOST_CHANGES = 8;

        private final State[] past;
        private int oldest;
        int count;

        History() {
            past = new State[MOST_CHANGES];
            for (int i = 0; i < past.length; i++) {
                past[i] = new State();
            }
        }

        void keep(State state) {
            past[(oldest + count) % MOST_CHANGES].copyFrom(state);
            if (count < MOST_CHANGES) {
                count++;
            } else {
                oldest = (oldest + 1) % MOST_CHANGES;
            }
        }

        void takeBack(State state) {
            if (count > 0) {
                count--;
                state.copyFrom(past[(oldest + count) % MOST_CHANGES]);
            }
        }

        void forget() {
            count = 0;
        }
    }
}
