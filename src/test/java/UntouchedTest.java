import java.util.ArrayList;
import java.util.List;
import java.util.Map;

/**
 * What each call changes, and that it leaves all else as it was. The object that is called has nothing left as it was
 * initially; it is made with its members in each order that begins with another one of them, for a fault may touch
 * one member alone.
 */
public final class UntouchedTest {
    private static final int LEAST = Integer.MIN_VALUE;
    private static final int MOST = Integer.MAX_VALUE;
    private static final int[] ANY = {-1, 0, 1, 2, 3, 4, 5, 6, 7, 31, 32, LEAST, MOST};
    private static final int[] CAPACITIES = {40, 30, 20, 25, 35, 45, 50};
    private static final int[] VOTES = {7, 6, 5, 4, 3, 2, 1};
    private static final String TEXT = "seed 77;seed 78";

    private final int turn;
    private final int members;

    private UntouchedTest(int turn, int members) {
        this.turn = turn;
        this.members = members;
    }

    public static void main(String[] args) {
        for (int turn = 0; turn < 7; turn++) {
            new UntouchedTest(turn, 7).all();
        }
        for (int turn = 0; turn < 6; turn++) {
            new UntouchedTest(turn, 6).withSixMembers();
        }
        Check.end();
    }

    private void all() {
        made();
        readers();
        readersOfVotes();
        readersOfRest();
        wrongValues();
        noMembers();
        wrongStates();
        denied();
        deniedLink();
        pardon();
        values();
        assign();
        sell();
        audit();
        close();
        links();
        texts();
        refusedTexts();
        feedAndLine();
        undoAndSnapshots();
    }

    /** The index of the member that has this place in the rows of capacities and votes. */
    private int at(int role) {
        return (role + turn) % members;
    }

    private String link(int one, int other) {
        return "link " + Math.min(at(one), at(other)) + " " + Math.max(at(one), at(other));
    }

    private ThunderCartel cartel() {
        return cartel(TEXT);
    }

    private ThunderCartel cartel(String text) {
        return cartel(text, true);
    }

    /**
     * In the order of the roles: barred for 2 months, barred for 1 month, 2 warnings, 1 warning, and three loyal ones.
     * quotas 22 0 11 14 20 25 28, sales 40 0 20 25 30 25 5, excesses 18 0 9 11 10 0 0
     */
    private ThunderCartel cartel(String text, boolean withSnapshot) {
        ThunderCartel x = new ThunderCartel();
        for (int i = 0; i < members; i++) {
            int role = (i - turn + members) % members;
            x.addMember(CAPACITIES[role], VOTES[role]);
        }
        // by the rule 0: 8 6 4 5 7 9 11
        x.assign(50);
        x.sell(at(5), 3);
        x.sell(at(1), 30);
        x.audit(members);
        x.audit(members);
        x.audit(members);
        x.close();
        if (withSnapshot) {
            x.saveSnapshot();
        }
        x.close();
        x.assign(120);
        x.sell(at(0), 40);
        x.audit(members);
        x.sell(at(2), 20);
        x.audit(members);
        x.sell(at(3), 25);
        x.audit(members);
        x.setRule(1);
        x.setThreshold(17);
        Check.feed(x, "link " + at(0) + "-" + at(1) + ";link " + at(1) + "-" + at(2) + ";link " + at(3) + "-" + at(5));
        x.execute();
        x.link(at(2), at(4));
        x.sell(at(4), 30);
        x.sell(at(5), 25);
        if (members == 7) {
            x.sell(at(6), 5);
        }
        x.setSeed(500);
        x.writeMember(at(3));
        Check.feed(x, "clos?");
        Check.fails("fault", Check.ARGUMENT, x::execute);
        Check.feed(x, "seed 3;rule 1");
        Check.fails("denial", Check.DENIED, x::execute);
        Check.feed(x, text);
        return x;
    }

    /** The call answers this, and leaves the object like that. */
    private void call(String what, Object answer, Whole want, Whole.Maker maker, Check.CallOf call) {
        String all = what + ", turn " + turn + " of " + members;
        Check.due(all, answer, Whole.answer(maker.make(), call));
        Whole got = Whole.of(() -> {
            ThunderCartel x = maker.make();
            Whole.answer(x, call);
            return x;
        });
        Check.due(all + ": changes", "", want.differences(got));
    }

    private void call(String what, Object answer, Whole want, Check.CallOf call) {
        call(what, answer, want, this::cartel, call);
    }

    private Whole whole() {
        return Whole.of(this::cartel);
    }

    private static Whole.Maker and(Whole.Maker maker, Check.CallOf... calls) {
        return () -> {
            ThunderCartel x = maker.make();
            for (Check.CallOf call : calls) {
                call.answer(x);
            }
            return x;
        };
    }

    /** The calls that made the object, and those that look at it, left nothing else behind. */
    private void made() {
        Whole want = whole();
        int[] quotas = {22, 0, 11, 14, 20, 25, 28};
        int[] sales = {40, 0, 20, 25, 30, 25, 5};
        state(want.state, quotas, sales, new String[] {"b2", "b1", "w2", "w1", "l", "l", "l"});
        want.state.putAll(Map.of(link(0, 1), true, link(1, 2), true, link(3, 5), true, link(2, 4), true));
        want.state.putAll(Map.of("month", 2, "seed", 500, "rule", 1, "threshold", 17));
        int[] earlier = {8, 6, 4, 5, 7, 9, 11};
        state(want.snapshot, earlier, new int[7], new String[] {"l", "b2", "l", "l", "l", "l", "l"});
        // the seed 0 after 21 members were drawn
        want.snapshot.putAll(Map.of("month", 1, "seed", seedAfter(21), "rule", 0, "threshold", 10));
        call("the state and the snapshot", 7, want, ThunderCartel::memberCount);
        want = want.with("line", at(3) + ":25/14/25v4!", "fault", 4, "denial", 8, "detail", 1, "cause", 7,
            "text", "2, seed 78", "length of the text", 16);
        call("the rest", 8, want, ThunderCartel::undoCount);
        Check.due("changes", 8, want.past.size());
    }

    private void state(Map<String, Object> state, int[] quotas, int[] sales, String[] standings) {
        state.put("members", 7);
        for (int role = 0; role < 7; role++) {
            int member = at(role);
            state.put("capacity " + member, CAPACITIES[role]);
            state.put("votes " + member, VOTES[role]);
            state.put("quota " + member, quotas[role]);
            state.put("sales " + member, sales[role]);
            state.put("standing " + member, standings[role]);
            for (int other = 0; other < role; other++) {
                state.put(link(other, role), false);
            }
        }
        // in the first month 30 units were sold with the quota 6, and 3 with the quota 9
        state.putAll(Map.of("sold", 33, "within", 9, "fined", 24, "fines", 72));
    }

    private static int seedAfter(int drawn) {
        int seed = 0;
        for (int i = 0; i < drawn; i++) {
            seed = (seed * 109 + 89) % 1024;
        }
        return seed;
    }

    /** Whatever the call is asked, it leaves all as it was. */
    private void reads(String what, Check.CallOfMember call) {
        Whole before = whole();
        Whole after = Whole.of(() -> {
            ThunderCartel x = cartel();
            for (int any : ANY) {
                Whole.answer(x, y -> call.answer(y, any));
            }
            return x;
        });
        Check.due(what + ", turn " + turn + ": changes", "", before.differences(after));
    }

    private void readers() {
        reads("4", (x, any) -> x.memberCount());
        reads("5", ThunderCartel::capacity);
        reads("6", ThunderCartel::votes);
        reads("7", ThunderCartel::standing);
        reads("8", ThunderCartel::warnings);
        reads("9", ThunderCartel::barredMonths);
        reads("10", ThunderCartel::memberByExcess);
        reads("15 the member", (x, any) -> x.quotaBy(any, 99, 0));
        reads("15 the total by 0", (x, any) -> x.quotaBy(at(0), any, 0));
        reads("15 the total by 1", (x, any) -> x.quotaBy(at(4), any, 1));
        reads("15 the rule", (x, any) -> x.quotaBy(at(5), 60, any));
        reads("16", ThunderCartel::quota);
        reads("17", ThunderCartel::sales);
        reads("18", ThunderCartel::excess);
        reads("21", ThunderCartel::drawnMember);
        reads("24", (x, any) -> x.linkCount());
        reads("25 one", (x, any) -> x.areLinked(any, at(1)));
        reads("25 the other", (x, any) -> x.areLinked(at(1), any));
    }

    private void readersOfVotes() {
        reads("26", (x, any) -> x.fewestWatchers());
        reads("27", (x, any) -> x.fewestWatchersByBranching());
        reads("29", (x, any) -> x.winningCoalitions());
        reads("30", ThunderCartel::swings);
        reads("31", ThunderCartel::swingsByCounts);
        reads("32", (x, any) -> x.leastDifference());
        reads("33", (x, any) -> x.leastDifferenceBySums());
        reads("34", ThunderCartel::share);
        reads("35", ThunderCartel::shareBySteps);
    }

    private void readersOfRest() {
        reads("36", (x, any) -> x.month());
        reads("37", (x, any) -> x.soldTotal());
        reads("38", (x, any) -> x.withinTotal());
        reads("39", (x, any) -> x.finedTotal());
        reads("40", (x, any) -> x.fines());
        reads("41", (x, any) -> x.meanSales());
        reads("42", (x, any) -> x.finedShare());
        reads("45", (x, any) -> x.faultPosition());
        reads("47", ThunderCartel::lineCharacter);
        reads("48", (x, any) -> x.denial());
        reads("49", (x, any) -> x.denialDetail());
        reads("50", (x, any) -> x.denialCause());
        reads("52", (x, any) -> x.undoCount());
    }

    /** The value is refused as a wrong one, without any change; with no denial either. */
    private void wrong(String what, int[] values, Check.CallOfMember call) {
        Whole before = whole();
        for (int value : values) {
            call(what + " " + value, "IllegalArgumentException", before, x -> call.answer(x, value));
        }
    }

    private void wrongValues() {
        wrong("2 capacity", new int[] {0, 100, -1, LEAST, MOST}, (x, value) -> x.addMember(value, 1));
        wrong("2 votes", new int[] {0, 21, -1, LEAST, MOST}, (x, value) -> x.addMember(1, value));
        wrong("11", new int[] {-1, 2, LEAST, MOST}, ThunderCartel::setRule);
        wrong("12", new int[] {-1, 301, LEAST, MOST}, ThunderCartel::assign);
        wrong("13", new int[] {0, 100, -1, LEAST, MOST}, (x, value) -> x.sell(at(5), value));
        wrong("13 barred", new int[] {0, 100, -1, LEAST, MOST}, (x, value) -> x.sell(at(0), value));
        wrong("19", new int[] {0, 8, -1, LEAST, MOST}, ThunderCartel::audit);
        wrong("20", new int[] {-1, 1024, LEAST, MOST}, ThunderCartel::setSeed);
        wrong("22", new int[] {0, 1, 2, 3, 4, 5, 6}, (x, member) -> x.link(member, member));
        wrong("23", new int[] {0, 1, 2, 3, 4, 5, 6}, (x, member) -> x.unlink(member, member));
        wrong("28", new int[] {0, 100, -1, LEAST, MOST}, ThunderCartel::setThreshold);
    }

    private void noMembers() {
        Whole before = whole();
        String index = "IndexOutOfBoundsException";
        for (int member : new int[] {-1, 7, 32, LEAST, MOST}) {
            call("3 " + member, index, before, x -> x.pardon(member));
            call("13 " + member, index, before, x -> x.sell(member, 1));
            call("22 first " + member, index, before, x -> x.link(member, at(0)));
            call("22 second " + member, index, before, x -> x.link(at(0), member));
            call("23 first " + member, index, before, x -> x.unlink(member, at(1)));
            call("23 second " + member, index, before, x -> x.unlink(at(1), member));
            call("46 " + member, index, before, x -> x.writeMember(member));
        }
    }

    /** Exceptions for a state in which the object is not: a full buffer, nothing to undo, no snapshot. */
    private void wrongStates() {
        Whole.Maker full = and(this::cartel, x -> Check.feed(x, ";seed 79;seed 80;seed 81;seed 82;close;close;"));
        Check.due("43 full", "IllegalStateException", Whole.of(full).rest.get("length of the text"));
        for (char sign : new char[] {'c', '1', ';', ' '}) {
            call("43 full " + sign, "IllegalStateException", Whole.of(full), full, x -> x.feed(sign));
        }
        Whole.Maker restored = and(this::cartel, ThunderCartel::restoreSnapshot);
        call("51", "IllegalStateException", Whole.of(restored), restored, ThunderCartel::undo);
        Whole.Maker saved = and(this::cartel, ThunderCartel::saveSnapshot, ThunderCartel::restoreSnapshot);
        call("51 saved", "IllegalStateException", Whole.of(saved), saved, ThunderCartel::undo);
        Whole.Maker unsaved = () -> cartel(TEXT, false);
        call("54", "IllegalStateException", Whole.of(unsaved), unsaved, ThunderCartel::restoreSnapshot);
    }

    private void deny(String what, int number, int detail, Whole.Maker maker, Check.CallOf call) {
        Whole want = Whole.of(maker).with("denial", number, "detail", detail, "cause", "NoSuchElementException");
        call(what, "UnsupportedOperationException", want, maker, call);
    }

    private void denied() {
        deny("2", 1, 7, this::cartel, x -> x.addMember(1, 1));
        for (int role = 4; role <= 6; role++) {
            int member = at(role);
            deny("3 " + role, 5, member, this::cartel, x -> x.pardon(member));
        }
        deny("11", 7, 1, this::cartel, x -> x.setRule(1));
        deny("13 barred", 2, 2, this::cartel, x -> x.sell(at(0), 1));
        deny("13 barred for a month", 2, 1, this::cartel, x -> x.sell(at(1), 99));
        deny("13 above the capacity", 3, 20, this::cartel, x -> x.sell(at(5), 21));
        deny("13 warned", 3, 0, this::cartel, x -> x.sell(at(2), 1));
        deny("22 linked", 4, 4, this::cartel, x -> x.link(at(0), at(1)));
        deny("22 linked the other way", 4, 4, this::cartel, x -> x.link(at(1), at(0)));
        deny("23 not linked", 4, 4, this::cartel, x -> x.unlink(at(0), at(2)));
        deny("28", 7, 17, this::cartel, x -> x.setThreshold(17));
    }

    private void deniedLink() {
        Whole.Maker full = and(this::cartel, x -> x.link(at(0), at(3)), x -> x.link(at(0), at(4)),
            x -> x.link(at(0), at(5)), x -> x.link(at(0), at(6)), x -> x.link(at(1), at(3)),
            x -> x.link(at(1), at(4)), x -> x.link(at(6), at(5)), x -> x.link(at(6), at(4)));
        deny("22 the limit", 1, 12, full, x -> x.link(at(6), at(3)));
        deny("22 linked ahead of the limit", 4, 12, full, x -> x.link(at(6), at(5)));
        deny("23 not linked", 4, 12, full, x -> x.unlink(at(6), at(3)));
    }

    private void withSixMembers() {
        deny("19", 6, 6, this::cartel, x -> x.audit(7));
        Whole want = whole().afterChange("members", 7, "capacity 6", 9, "votes 6", 8, "quota 6", 0, "sales 6", 0,
            "standing 6", "l", "link 0 6", false, "link 1 6", false, "link 2 6", false, "link 3 6", false,
            "link 4 6", false, "link 5 6", false);
        call("2", 6, want, x -> x.addMember(9, 8));
        String index = "IndexOutOfBoundsException";
        call("13 the seventh", index, whole(), x -> x.sell(6, 1));
        call("22 the seventh", index, whole(), x -> x.link(at(0), 6));
    }

    private void pardon() {
        for (int role = 0; role <= 3; role++) {
            int member = at(role);
            Whole want = whole().afterChange("standing " + member, "l");
            call("3 " + role, 4, want, x -> x.pardon(member));
        }
        Whole.Maker once = and(this::cartel, x -> x.pardon(at(0)));
        Whole want = Whole.of(once).afterChange("standing " + at(3), "l");
        call("3 a second one", 5, want, once, x -> x.pardon(at(3)));
    }

    private void values() {
        call("11", 1, whole().afterChange("rule", 0), x -> x.setRule(0));
        call("20", 500, whole().afterChange("seed", 3), x -> x.setSeed(3));
        call("20 the present one", 500, whole().afterChange(), x -> x.setSeed(500));
        call("28", 17, whole().afterChange("threshold", 20), x -> x.setThreshold(20));
    }

    private void assign() {
        // by the rule 1: 35 is a fifth of 20, 25, 35, 45 and 50
        Whole want = whole().afterChange("quota " + at(0), 0, "quota " + at(2), 4, "quota " + at(3), 5,
            "quota " + at(4), 7, "quota " + at(5), 9, "quota " + at(6), 10);
        call("12", 6, want, x -> x.assign(35));
        Whole.Maker assigned = and(this::cartel, x -> x.assign(35));
        call("12 the same again", 0, Whole.of(assigned).afterChange(), assigned, x -> x.assign(35));
        Whole.Maker none = and(ThunderCartel::new, x -> x.setSeed(5));
        call("12 without members", 0, Whole.of(none).afterChange(), none, x -> x.assign(300));
    }

    private void sell() {
        call("13", 32, whole().afterChange("sales " + at(5), 32), x -> x.sell(at(5), 7));
        call("13 all", 50, whole().afterChange("sales " + at(6), 50), x -> x.sell(at(6), 45));
        call("13 one", 31, whole().afterChange("sales " + at(4), 31), x -> x.sell(at(4), 1));
    }

    private void audit() {
        // the seed 500 becomes 317, 850, 579, 736, 441, 30 and 287
        Whole want = whole().afterChange("seed", 287, "standing " + at(2), "b2", "standing " + at(3), "w2",
            "standing " + at(4), "w1");
        call("19 all", 3, want, x -> x.audit(7));
        // 317 modulo 7 is 2
        String[] after = {"b2", "b1", "b2", "w2", "w1", "l", "l"};
        int role = (2 - turn + 7) % 7;
        Whole one = whole().afterChange("seed", 317, "standing 2", after[role]);
        call("19 one", role >= 2 && role <= 4 ? 1 : 0, one, x -> x.audit(1));
        Whole.Maker closed = and(this::cartel, ThunderCartel::close);
        call("19 none has an excess", 0, Whole.of(closed).afterChange("seed", 287), closed, x -> x.audit(7));
    }

    private void close() {
        // before it, 33 units were sold and 9 of them were within the quotas
        Whole want = whole().afterChange("month", 3, "sold", 178, "within", 106, "fined", 72, "fines", 216,
            "standing " + at(1), "l");
        for (int i = 0; i < 7; i++) {
            want.state.put("sales " + i, 0);
        }
        call("14", 144, want, ThunderCartel::close);
        Whole.Maker closed = and(this::cartel, ThunderCartel::close);
        Whole next = Whole.of(closed).afterChange("month", 4, "standing " + at(0), "b1", "standing " + at(2), "w1",
            "standing " + at(3), "l");
        call("14 the next one", 0, next, closed, ThunderCartel::close);
        Whole.Maker none = and(ThunderCartel::new, x -> x.setSeed(5));
        call("14 without members", 0, Whole.of(none).afterChange("month", 1), none, ThunderCartel::close);
    }

    private void links() {
        call("22", 5, whole().afterChange(link(5, 6), true), x -> x.link(at(5), at(6)));
        call("22 the other way", 5, whole().afterChange(link(0, 6), true), x -> x.link(at(6), at(0)));
        call("23", 3, whole().afterChange(link(1, 2), false), x -> x.unlink(at(1), at(2)));
        call("23 the other way", 3, whole().afterChange(link(3, 5), false), x -> x.unlink(at(5), at(3)));
    }

    private static Whole emptied(Whole whole, Object... namesAndAnswers) {
        return whole.with("text", "fault at 0", "length of the text", 1).with(namesAndAnswers);
    }

    private void texts() {
        call("44", 2, emptied(whole().afterChange("seed", 78)), ThunderCartel::execute);
        String text = "pardon " + at(0) + ";sell " + at(0) + " 10;rule 0;limit 9;cut " + at(0) + "-" + at(1);
        // 40 of the capacity 40 are sold already
        Whole.Maker full = () -> cartel(text);
        call("44 the second is denied", "UnsupportedOperationException",
            emptied(Whole.of(full), "denial", 8, "detail", 1, "cause", 3), full, ThunderCartel::execute);
        Whole.Maker other = () -> cartel(text.replace("sell " + at(0) + " 10", "sell " + at(6) + " 10"));
        Whole want = Whole.of(other).afterChange("standing " + at(0), "l", "sales " + at(6), 15, "rule", 0,
            "threshold", 9, link(0, 1), false);
        call("44 all five", 5, emptied(want), other, ThunderCartel::execute);
        Whole.Maker same = () -> cartel("seed 500");
        call("44 no difference", 1, emptied(Whole.of(same).afterChange()), same, ThunderCartel::execute);
    }

    /** The text is refused, whatever its commands before the last one would change. */
    private void deny(String text, int detail, int cause) {
        Whole.Maker maker = () -> cartel(text);
        Whole want = emptied(Whole.of(maker), "denial", 8, "detail", detail, "cause", cause);
        call("44 " + text, "UnsupportedOperationException", want, maker, ThunderCartel::execute);
    }

    private void refusedTexts() {
        deny("close;assign 9;audit 7;seed 4;limit 3;rule 0;join 1 1", 6, 1);
        deny("pardon " + at(0) + ";pardon " + at(2) + ";sell " + at(1) + " 1", 2, 2);
        deny("cut " + at(0) + "-" + at(1) + ";link " + at(5) + "-" + at(6) + ";cut " + at(6) + "-" + at(0), 2, 4);
        deny("close;pardon " + at(3) + ";pardon " + at(3), 2, 5);
        deny("rule 0;limit 17", 1, 7);
        deny("close;assign 9;audit 0", 2, 9);
        deny("sell " + at(6) + " 1;pardon 7", 1, 9);
        fault("close;seedy", 10);
        fault("limit 4;lim", 11);
        fault("rule 0:close", 6);
        fault("", 0);
    }

    private void fault(String text, int position) {
        Whole.Maker maker = () -> cartel(text);
        Whole want = emptied(Whole.of(maker), "fault", position);
        call("44 does not match: " + text, "IllegalArgumentException", want, maker, ThunderCartel::execute);
    }

    private void feedAndLine() {
        Whole.Maker part = () -> cartel("seed 7");
        Whole fed = Whole.of(part).with("text", "1, seed 79", "length of the text", 8);
        call("43", 7, fed, part, x -> x.feed('9'));
        Whole odd = Whole.of(part).with("text", "fault at 6", "length of the text", 8);
        call("43 any", 7, odd, part, x -> x.feed((char) 0x661));
        String[] ends = {":40/22/40v7xx", ":0/0/30v6x", ":20/11/20v5!!", ":25/14/25v4!", ":30/20/35v3", ":25/25/45v2",
            ":5/28/50v1"};
        for (int role = 0; role < 7; role++) {
            int member = at(role);
            String line = member + ends[role];
            call("46 " + role, line.length(), whole().with("line", line), x -> x.writeMember(member));
        }
    }

    private void undoAndSnapshots() {
        Whole before = whole();
        Check.due("eight changes", 8, before.past.size());
        List<Map<String, Object>> left = new ArrayList<>(before.past);
        Whole.Maker maker = this::cartel;
        for (int undone = 1; undone <= 8; undone++) {
            Whole want = before.back(left.get(0), left.subList(1, left.size()));
            call("51 undone " + undone, 8 - undone, want, maker, ThunderCartel::undo);
            left.remove(0);
            maker = and(maker, ThunderCartel::undo);
        }
        Whole saved = before.copy();
        saved.snapshot = before.state;
        call("53", 7, saved, ThunderCartel::saveSnapshot);
        call("54", 7, before.back(before.snapshot, List.of()), ThunderCartel::restoreSnapshot);
        Whole.Maker twice = and(this::cartel, ThunderCartel::restoreSnapshot, ThunderCartel::close);
        call("54 again", 7, Whole.of(twice).back(before.snapshot, List.of()), twice, ThunderCartel::restoreSnapshot);
    }
}
