import java.math.BigInteger;
import java.util.ArrayDeque;
import java.util.ArrayList;
import java.util.Arrays;
import java.util.Comparator;
import java.util.Deque;
import java.util.List;
import java.util.NoSuchElementException;
import java.util.TreeSet;
import java.util.regex.Matcher;
import java.util.regex.Pattern;

/**
 * A second cartel, read from the document in other ways than the program: states that are never changed
 * but copied, exceptions thrown by the commands themselves, the grammar as a regular expression, and each
 * pair of calls that must answer the same computed once, from its definition.
 */
final class Reference {
    private static final String COMMAND = "(?:join \\p{N2} \\p{N2}|assign \\p{N4}|rule \\p{N1}|sell \\p{N1} \\p{N2}"
        + "|audit \\p{N1}|close|link \\p{N1}-\\p{N1}|cut \\p{N1}-\\p{N1}|pardon \\p{N1}|limit \\p{N2}|seed \\p{N4})";
    private static final Pattern TEXT = Pattern.compile(
        (COMMAND + "(?:;" + COMMAND + ")*").replace("\\p{N1}", "[0-9]").replace("\\p{N2}", "[0-9]{1,2}")
            .replace("\\p{N4}", "[0-9]{1,4}"));

    private static final class World {
        List<int[]> members = new ArrayList<>(); // capacity, votes, quota, sales, level
        TreeSet<String> links = new TreeSet<>();
        int rule;
        int seed;
        int threshold = 10;
        int month;
        int sold;
        int fined;
        int coins;

        World copy() {
            World copy = new World();
            for (int[] member : members) {
                copy.members.add(member.clone());
            }
            copy.links = new TreeSet<>(links);
            copy.rule = rule;
            copy.seed = seed;
            copy.threshold = threshold;
            copy.month = month;
            copy.sold = sold;
            copy.fined = fined;
            copy.coins = coins;
            return copy;
        }
    }

    private World now = new World();
    private World saved;
    private final Deque<World> past = new ArrayDeque<>();
    private String text = "";
    private String line = "";
    private int fault = -1;
    private int denial;
    private int detail;
    private int cause;

    // the level of a member: 0 loyal, 1 and 2 the warnings, 3 barred for two months, 4 barred for one

    private static boolean barred(int[] member) {
        return member[4] >= 3;
    }

    private static int over(int[] member) {
        return member[3] > member[2] ? member[3] - member[2] : 0;
    }

    private int[] at(int index) {
        if (index < 0 || index >= now.members.size()) {
            throw new IndexOutOfBoundsException();
        }
        return now.members.get(index);
    }

    private void range(int value, int least, int most) {
        if (value < least || value > most) {
            throw new IllegalArgumentException();
        }
    }

    private void deny(boolean denied, int number, int why) {
        if (denied) {
            denial = number;
            detail = why;
            cause = 0;
            throw new UnsupportedOperationException();
        }
    }

    /** A change by the name of its method. */
    private int doChange(String name, int a, int b) {
        switch (name) {
            case "addMember":
                range(a, 1, 99);
                range(b, 1, 20);
                deny(now.members.size() == 7, 1, 7);
                now.members.add(new int[] {a, b, 0, 0, 0});
                return now.members.size() - 1;
            case "pardon":
                deny(at(a)[4] == 0, 5, a);
                at(a)[4] = 0;
                return (int) now.members.stream().filter(m -> m[4] == 0).count();
            case "setRule":
                range(a, 0, 1);
                deny(a == now.rule, 7, a);
                now.rule = a;
                return 1 - a;
            case "setThreshold":
                range(a, 1, 99);
                deny(a == now.threshold, 7, a);
                int threshold = now.threshold;
                now.threshold = a;
                return threshold;
            case "setSeed":
                range(a, 0, 1023);
                int seed = now.seed;
                now.seed = a;
                return seed;
            case "assign":
                range(a, 0, 300);
                return assign(quotas(a, now.rule));
            case "sell":
                int[] seller = at(a);
                range(b, 1, 99);
                deny(barred(seller), 2, 5 - seller[4]);
                deny(seller[3] + b > seller[0], 3, seller[0] - seller[3]);
                seller[3] += b;
                return seller[3];
            case "close":
                return close();
            case "audit":
                range(a, 1, 7);
                deny(now.members.size() < a, 6, now.members.size());
                return audit(a);
            default:
                return changeLink(name, a, b);
        }
    }

    private int changeLink(String name, int a, int b) {
        at(a);
        at(b);
        if (a == b) {
            throw new IllegalArgumentException();
        }
        String pair = Math.min(a, b) + "-" + Math.max(a, b);
        boolean linked = now.links.contains(pair);
        if (name.equals("link")) {
            deny(linked, 4, now.links.size());
            deny(now.links.size() == 12, 1, 12);
            now.links.add(pair);
        } else {
            deny(!linked, 4, now.links.size());
            now.links.remove(pair);
        }
        return now.links.size();
    }

    private int assign(int[] quotas) {
        int different = 0;
        for (int i = 0; i < quotas.length; i++) {
            if (at(i)[2] != quotas[i]) {
                different++;
            }
            at(i)[2] = quotas[i];
        }
        return different;
    }

    private int[] quotas(int total, int rule) {
        int[] quotas = new int[now.members.size()];
        List<Integer> active = new ArrayList<>();
        int sum = 0;
        for (int i = 0; i < quotas.length; i++) {
            if (!barred(at(i))) {
                active.add(i);
                sum += at(i)[0];
            }
        }
        if (active.isEmpty()) {
            return quotas;
        }
        if (rule == 0) {
            int left = total;
            for (int i : active) {
                quotas[i] = total * at(i)[0] / sum;
                left -= quotas[i];
            }
            final int all = sum;
            active.sort(Comparator.comparingInt(i -> -(total * at(i)[0] % all)));
            for (int i : active.subList(0, left)) {
                quotas[i]++;
            }
            return quotas;
        }
        // all fractions in descending order; the first ones get the units
        List<int[]> fractions = new ArrayList<>();
        for (int i : active) {
            for (int divisor = 1; divisor <= total; divisor++) {
                fractions.add(new int[] {at(i)[0], divisor, i});
            }
        }
        fractions.sort((f, g) -> {
            int order = BigInteger.valueOf(g[0]).multiply(BigInteger.valueOf(f[1]))
                .compareTo(BigInteger.valueOf(f[0]).multiply(BigInteger.valueOf(g[1])));
            return order != 0 ? order : Integer.compare(f[2], g[2]);
        });
        for (int[] fraction : fractions.subList(0, total)) {
            quotas[fraction[2]]++;
        }
        return quotas;
    }

    private int close() {
        int fines = 0;
        for (int[] member : now.members) {
            int above = over(member);
            now.sold += member[3];
            now.fined += above;
            fines += 3 * above;
            if (above == 0) {
                member[4] = new int[] {0, 0, 1, 4, 0}[member[4]];
            }
            member[3] = 0;
        }
        now.coins += fines;
        now.month++;
        return fines;
    }

    private List<Integer> draw(int count, int[] seed) {
        List<Integer> drawn = new ArrayList<>();
        while (drawn.size() < count) {
            seed[0] = (seed[0] * 109 + 89) & 1023;
            int member = seed[0] % now.members.size();
            while (drawn.contains(member)) {
                member = member + 1 == now.members.size() ? 0 : member + 1;
            }
            drawn.add(member);
        }
        return drawn;
    }

    private int audit(int count) {
        int[] seed = {now.seed};
        int caught = 0;
        for (int i : draw(count, seed)) {
            if (over(at(i)) > 0 && !barred(at(i))) {
                at(i)[4]++;
                caught++;
            }
        }
        now.seed = seed[0];
        return caught;
    }

    private int change(String name, int a, int b) {
        World before = now.copy();
        int answer = doChange(name, a, b);
        keep(before);
        return answer;
    }

    private void keep(World before) {
        past.addLast(before);
        if (past.size() > 8) {
            past.removeFirst();
        }
    }

    private int execute() {
        String all = text;
        text = "";
        if (!TEXT.matcher(all).matches()) {
            fault = faultOf(all);
            throw new IllegalArgumentException();
        }
        World before = now.copy();
        String[] commands = all.split(";");
        for (int i = 0; i < commands.length; i++) {
            int failed = 0;
            try {
                runCommand(commands[i]);
            } catch (UnsupportedOperationException thrown) {
                failed = denial;
            } catch (RuntimeException thrown) {
                failed = 9;
            }
            if (failed != 0) {
                now = before;
                denial = 8;
                detail = i;
                cause = failed;
                throw new UnsupportedOperationException();
            }
        }
        keep(before);
        return commands.length;
    }

    private static int faultOf(String all) {
        for (int i = 0; i < all.length(); i++) {
            Matcher matcher = TEXT.matcher(all.substring(0, i + 1));
            if (!matcher.matches() && !matcher.hitEnd()) {
                return i;
            }
        }
        return all.length();
    }

    private void runCommand(String command) {
        String[] words = command.split("[ -]");
        int a = words.length > 1 ? Integer.parseInt(words[1]) : 0;
        int b = words.length > 2 ? Integer.parseInt(words[2]) : 0;
        String[] names = {"join", "addMember", "assign", "assign", "rule", "setRule", "sell", "sell", "audit",
            "audit", "close", "close", "link", "link", "cut", "unlink", "pardon", "pardon", "limit",
            "setThreshold", "seed", "setSeed"};
        doChange(names[Arrays.asList(names).indexOf(words[0]) + 1], a, b);
    }

    private List<Integer> activeVotes(int without) {
        List<Integer> votes = new ArrayList<>();
        for (int i = 0; i < now.members.size(); i++) {
            if (i != without && !barred(at(i))) {
                votes.add(at(i)[1]);
            }
        }
        return votes;
    }

    /** The votes of each coalition of these members. */
    private static List<Integer> sums(List<Integer> votes) {
        List<Integer> sums = new ArrayList<>(List.of(0));
        for (int one : votes) {
            for (int sum : new ArrayList<>(sums)) {
                sums.add(sum + one);
            }
        }
        return sums;
    }

    private int swings(int member) {
        int[] one = at(member);
        if (barred(one)) {
            throw new NoSuchElementException();
        }
        int threshold = now.threshold;
        return (int) sums(activeVotes(member)).stream()
            .filter(sum -> sum < threshold && sum + one[1] >= threshold).count();
    }

    private int leastDifference() {
        List<Integer> votes = activeVotes(-1);
        int all = votes.stream().mapToInt(Integer::intValue).sum();
        return sums(votes).stream().mapToInt(sum -> Math.abs(all - sum - sum)).min().getAsInt();
    }

    private int fewestWatchers() {
        int best = 99;
        for (int set = 0; set < 128; set++) {
            boolean all = true;
            for (String pair : now.links) {
                all &= (set >> pair.charAt(0) - '0' & 1) + (set >> pair.charAt(2) - '0' & 1) > 0;
            }
            best = all ? Math.min(best, Integer.bitCount(set)) : best;
        }
        return best;
    }

    /** By the sets that can stand before the member: each stands there in size! * (others - size)! orders. */
    private int share(int member) {
        int own = over(at(member));
        int count = now.members.size();
        int share = 0;
        for (int set = 0; set < 1 << count; set++) {
            if ((set >> member & 1) == 1) {
                continue;
            }
            int greatest = 0;
            for (int i = 0; i < count; i++) {
                greatest = (set >> i & 1) == 1 ? Math.max(greatest, over(at(i))) : greatest;
            }
            int size = Integer.bitCount(set);
            share += Math.max(0, own - greatest) * factorial(size) * factorial(count - 1 - size);
        }
        return share;
    }

    private static int factorial(int n) {
        return n <= 1 ? 1 : n * factorial(n - 1);
    }

    private int memberByExcess(int rank) {
        List<Integer> order = new ArrayList<>();
        for (int i = 0; i < now.members.size(); i++) {
            order.add(i);
        }
        order.sort(Comparator.comparingInt((Integer i) -> -over(at(i))).thenComparingInt(i -> -at(i)[3]));
        if (rank < 0 || rank >= order.size()) {
            throw new NoSuchElementException();
        }
        return order.get(rank);
    }

    private int drawnMember(int place) {
        if (place < 0 || place >= now.members.size()) {
            throw new NoSuchElementException();
        }
        return draw(place + 1, new int[] {now.seed}).get(place);
    }

    private int writeMember(int member) {
        int[] m = at(member);
        String standing = new String[] {"", "!", "!!", "xx", "x"}[m[4]];
        line = member + ":" + m[3] + "/" + m[2] + "/" + m[0] + "v" + m[1] + standing;
        return line.length();
    }

    private int some(boolean there, int value) {
        if (!there) {
            throw new NoSuchElementException();
        }
        return value;
    }

    private void state(boolean there) {
        if (!there) {
            throw new IllegalStateException();
        }
    }

    private double mean() {
        if (now.members.isEmpty()) {
            throw new ArithmeticException();
        }
        return (double) now.members.stream().mapToInt(m -> m[3]).sum() / (double) now.members.size();
    }

    private float finedShare() {
        if (now.sold == 0) {
            throw new ArithmeticException();
        }
        return (float) now.fined / (float) now.sold;
    }

    private int quotaBy(int member, int total, int rule) {
        at(member);
        range(total, 0, 300);
        range(rule, 0, 1);
        return quotas(total, rule)[member];
    }

    private boolean areLinked(int a, int b) {
        at(a);
        at(b);
        return now.links.contains(Math.min(a, b) + "-" + Math.max(a, b));
    }

    Object call(String name, int a, int b, int c) {
        switch (name) {
            case "memberCount": return now.members.size();
            case "capacity": return at(a)[0];
            case "votes": return at(a)[1];
            case "standing": return "lwwbb".charAt(at(a)[4]);
            case "warnings": return some(at(a)[4] == 1 || at(a)[4] == 2, at(a)[4]);
            case "barredMonths": return some(barred(at(a)), 5 - at(a)[4]);
            case "memberByExcess": return memberByExcess(a);
            case "quotaBy": return quotaBy(a, b, c);
            case "quota": return at(a)[2];
            case "sales": return at(a)[3];
            case "excess": return over(at(a));
            case "drawnMember": return drawnMember(a);
            case "linkCount": return now.links.size();
            case "areLinked": return areLinked(a, b);
            case "fewestWatchers":
            case "fewestWatchersByBranching": return fewestWatchers();
            case "winningCoalitions":
                return (int) sums(activeVotes(-1)).stream().filter(sum -> sum >= now.threshold).count();
            case "swings":
            case "swingsByCounts": return swings(a);
            case "leastDifference":
            case "leastDifferenceBySums": return leastDifference();
            case "share":
            case "shareBySteps": return share(a);
            case "month": return now.month;
            case "soldTotal": return now.sold;
            case "withinTotal": return now.sold - now.fined;
            case "finedTotal": return now.fined;
            case "fines": return now.coins;
            case "meanSales": return mean();
            case "finedShare": return finedShare();
            case "feed":
                state(text.length() < 60);
                text += (char) a;
                return text.length();
            case "execute": return execute();
            case "faultPosition": return some(fault >= 0, fault);
            case "writeMember": return writeMember(a);
            case "lineCharacter":
                if (a < 0 || a >= line.length()) {
                    throw new IndexOutOfBoundsException();
                }
                return line.charAt(a);
            case "denial": return some(denial > 0, denial);
            case "denialDetail": return some(denial > 0, detail);
            case "denialCause": return some(denial > 0 && cause > 0, cause);
            case "undo":
                state(!past.isEmpty());
                now = past.removeLast();
                return past.size();
            case "undoCount": return past.size();
            case "saveSnapshot":
                saved = now.copy();
                return saved.members.size();
            case "restoreSnapshot":
                state(saved != null);
                now = saved.copy();
                past.clear();
                return now.members.size();
            default: return change(name, a, b);
        }
    }
}
