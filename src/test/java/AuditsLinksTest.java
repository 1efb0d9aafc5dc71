/** Promises 19 to 27. */
public final class AuditsLinksTest {
    public static void main(String[] args) {
        audit();
        auditOfSome();
        auditWrong();
        seeds();
        drawn();
        link();
        linkWrong();
        unlink();
        watchers();
        watchersOfAllLinks();
        Check.end();
    }

    private static void audit() {
        ThunderCartel x = Check.cartel(40, 1, 40, 1, 40, 1);
        Check.due("19 none with an excess", 0, x.audit(3));
        x.sell(0, 1);
        x.sell(1, 1);
        Check.due("19 two", 2, x.audit(3));
        Check.due("19 again", 2, x.audit(3));
        Check.due("19 barred by it", 2, x.audit(3));
        Check.due("19 barred stay as they are", 0, x.audit(3));
        Check.due("19 for two months", 2, x.barredMonths(0));
        Check.due("19 not the third", 'l', x.standing(2));
        x.assign(60);
        x.sell(2, 40);
        Check.due("19 within the quota", 0, x.audit(3));
        x.assign(39);
        Check.due("19 above the quota", 1, x.audit(3));
    }

    private static void auditOfSome() {
        // seeds from 0: 89, 574, 191, 428: of 5 members 4, then 4 again, so 0, then 1, then 3
        ThunderCartel x = Check.cartel(40, 1, 40, 1, 40, 1, 40, 1, 40, 1);
        for (int i = 0; i < 5; i++) {
            x.sell(i, 1);
        }
        Check.due("19 two drawn", 2, x.audit(2));
        Check.due("19 standings", "wlllw", standings(x));
        // the next one after the last is drawn already: 191 % 5 = 1, 428 % 5 = 3
        Check.due("19 two more", 2, x.audit(2));
        Check.due("19 standings after", "wwlww", standings(x));
        Check.due("20 seed after four", 428, x.setSeed(0));
    }

    private static String standings(ThunderCartel x) {
        StringBuilder signs = new StringBuilder();
        for (int i = 0; i < x.memberCount(); i++) {
            signs.append(x.standing(i));
        }
        return signs.toString();
    }

    private static void auditWrong() {
        ThunderCartel x = Check.cartel(40, 1, 40, 1);
        Check.denied("19 too few", x, 6, 2, () -> x.audit(3));
        Check.denied("19 too few for seven", x, 6, 2, () -> x.audit(7));
        Check.fails("19 none", Check.ARGUMENT, () -> x.audit(0));
        Check.fails("19 eight", Check.ARGUMENT, () -> x.audit(8));
        Check.fails("19 below", Check.ARGUMENT, () -> x.audit(-1));
        Check.due("19 seed stays", 0, x.setSeed(0));
        ThunderCartel y = new ThunderCartel();
        Check.denied("19 no members", y, 6, 0, () -> y.audit(1));
        ThunderCartel z = Check.cartel(1, 1, 1, 1, 1, 1, 1, 1, 1, 1, 1, 1, 1, 1);
        z.sell(6, 1);
        Check.due("19 seven", 1, z.audit(7));
    }

    private static void seeds() {
        ThunderCartel x = Check.cartel(40, 1);
        Check.due("20 before", 0, x.setSeed(1023));
        Check.due("20 the same again", 1023, x.setSeed(1023));
        x.audit(1);
        // (1023 * 109 + 89) % 1024 = 1004
        Check.due("20 after an audit", 1004, x.setSeed(0));
        for (int seed : new int[] {-1, 1024, Integer.MIN_VALUE, Integer.MAX_VALUE}) {
            Check.fails("20 " + seed, Check.ARGUMENT, () -> x.setSeed(seed));
        }
        Check.due("20 stays", 0, x.setSeed(1));
    }

    private static void drawn() {
        ThunderCartel x = Check.cartel(40, 1, 40, 1, 40, 1, 40, 1, 40, 1);
        Check.due("21 first", 4, x.drawnMember(0));
        Check.due("21 after the last comes 0", 0, x.drawnMember(1));
        Check.due("21 third", 1, x.drawnMember(2));
        Check.due("21 fourth", 3, x.drawnMember(3));
        Check.due("21 last", 2, x.drawnMember(4));
        Check.fails("21 not so many", Check.ELEMENT, () -> x.drawnMember(5));
        Check.fails("21 below", Check.ELEMENT, () -> x.drawnMember(-1));
        Check.fails("21 far", Check.ELEMENT, () -> x.drawnMember(Integer.MAX_VALUE));
        Check.fails("21 no members", Check.ELEMENT, () -> new ThunderCartel().drawnMember(0));
        Check.due("21 seed stays", 0, x.setSeed(428));
        // 428 goes to 661 and that to 458
        Check.due("21 by the seed", 1, x.drawnMember(0));
        Check.due("21 by the seed, next", 3, x.drawnMember(1));
    }

    private static ThunderCartel seven() {
        return Check.cartel(1, 1, 1, 1, 1, 1, 1, 1, 1, 1, 1, 1, 1, 1);
    }

    private static void link() {
        ThunderCartel x = seven();
        int links = 0;
        for (int i = 0; i < 7 && links < 12; i++) {
            for (int j = 0; j < i && links < 12; j++) {
                links++;
                Check.due("22 number", links, x.link(i, j));
                Check.due("24 number", links, x.linkCount());
                Check.due("25 linked", true, x.areLinked(i, j) && x.areLinked(j, i));
            }
        }
        Check.denied("22 thirteenth", x, 1, 12, () -> x.link(6, 5));
        Check.denied("22 linked before the limit", x, 4, 12, () -> x.link(0, 1));
        Check.due("25 not linked", false, x.areLinked(6, 5));
        Check.due("25 the same", false, x.areLinked(3, 3));
        Check.due("24 still twelve", 12, x.linkCount());
    }

    private static void linkWrong() {
        ThunderCartel x = Check.cartel(1, 1, 1, 1, 1, 1);
        x.link(0, 1);
        Check.denied("22 linked", x, 4, 1, () -> x.link(0, 1));
        Check.denied("22 linked, other way", x, 4, 1, () -> x.link(1, 0));
        Check.fails("22 the same", Check.ARGUMENT, () -> x.link(2, 2));
        Check.fails("23 the same", Check.ARGUMENT, () -> x.unlink(2, 2));
        for (int member : new int[] {-1, 3, 7, 32, Integer.MAX_VALUE, Integer.MIN_VALUE}) {
            Check.fails("22 first " + member, Check.INDEX, () -> x.link(member, 0));
            Check.fails("22 second " + member, Check.INDEX, () -> x.link(0, member));
            Check.fails("22 both " + member, Check.INDEX, () -> x.link(member, member));
            Check.fails("23 first " + member, Check.INDEX, () -> x.unlink(member, 0));
            Check.fails("23 second " + member, Check.INDEX, () -> x.unlink(0, member));
            Check.fails("23 both " + member, Check.INDEX, () -> x.unlink(member, member));
            Check.fails("25 first " + member, Check.INDEX, () -> x.areLinked(member, 0));
            Check.fails("25 second " + member, Check.INDEX, () -> x.areLinked(0, member));
        }
        Check.due("24 one", 1, x.linkCount());
    }

    private static void unlink() {
        ThunderCartel x = Check.cartel(1, 1, 1, 1, 1, 1);
        x.link(0, 1);
        x.link(2, 1);
        Check.denied("23 not linked", x, 4, 2, () -> x.unlink(0, 2));
        Check.due("23 other way", 1, x.unlink(1, 0));
        Check.due("25 no more", false, x.areLinked(0, 1));
        Check.due("25 the other stays", true, x.areLinked(1, 2));
        Check.denied("23 no more", x, 4, 1, () -> x.unlink(0, 1));
        Check.due("23 last", 0, x.unlink(2, 1));
        Check.denied("23 none", x, 4, 0, () -> x.unlink(0, 1));
        Check.due("22 again", 1, x.link(0, 1));
    }

    /** Each way to link five members, which stand at both ends of the seven. */
    private static void watchersOfAllLinks() {
        int[] places = {0, 1, 3, 5, 6};
        for (int links = 0; links < 1 << 10; links++) {
            ThunderCartel x = seven();
            int[] open = new int[1 << 5];
            int bit = 0;
            for (int i = 0; i < 5; i++) {
                for (int j = 0; j < i; j++) {
                    if ((links >> bit & 1) == 1) {
                        x.link(places[i], places[j]);
                        for (int set = 0; set < 1 << 5; set++) {
                            open[set] |= (set >> i & 1) + (set >> j & 1) == 0 ? 1 : 0;
                        }
                    }
                    bit++;
                }
            }
            int want = 5;
            for (int set = 0; set < 1 << 5; set++) {
                want = open[set] == 0 ? Math.min(want, Integer.bitCount(set)) : want;
            }
            watch("links " + links, want, x);
        }
    }

    private static void watch(String what, int want, ThunderCartel x) {
        Check.due("26 " + what, want, x.fewestWatchers());
        Check.due("27 " + what, want, x.fewestWatchersByBranching());
    }

    private static void watchers() {
        watch("no members", 0, new ThunderCartel());
        ThunderCartel x = seven();
        watch("no links", 0, x);
        x.link(3, 0);
        watch("one link", 1, x);
        for (int i = 4; i < 7; i++) {
            x.link(3, i);
        }
        watch("a star", 1, x);
        x.link(0, 4);
        watch("a triangle", 2, x);
        x.link(1, 2);
        watch("a link beside", 3, x);
        // a path of seven
        ThunderCartel y = seven();
        for (int i = 0; i < 6; i++) {
            y.link(i, i + 1);
        }
        watch("a path", 3, y);
        y.link(6, 0);
        watch("a ring", 4, y);
        // all of five
        ThunderCartel z = seven();
        for (int i = 0; i < 5; i++) {
            for (int j = 0; j < i; j++) {
                z.link(i, j);
            }
        }
        watch("all of five", 4, z);
        z.link(5, 6);
        watch("all of five, and two", 5, z);
        // barred members watch too
        ThunderCartel b = Check.cartel(9, 1, 9, 1);
        b.sell(0, 1);
        b.sell(1, 1);
        b.link(0, 1);
        Check.barAll(b);
        watch("barred", 1, b);
    }
}
