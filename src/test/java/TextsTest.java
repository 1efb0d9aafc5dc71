/** Promises 43 to 50: texts, output lines and the latest denial. */
public final class TextsTest {
    public static void main(String[] args) {
        feed();
        commands();
        faults();
        faultIsKept();
        allOrNone();
        causes();
        denials();
        lines();
        Check.end();
    }

    private static void feed() {
        ThunderCartel x = new ThunderCartel();
        for (int i = 1; i <= 60; i++) {
            Check.due("43 length", i, x.feed(i == 1 ? (char) 0xFFFF : ' '));
        }
        Check.fails("43 full", Check.STATE, () -> x.feed('a'));
        Check.fails("43 still full", Check.STATE, () -> x.feed((char) 0));
        Check.fails("44 does not match", Check.ARGUMENT, x::execute);
        Check.due("43 empty again", 1, x.feed('c'));
    }

    private static void commands() {
        ThunderCartel x = new ThunderCartel();
        Check.due("44 joins", 3, Check.run(x, "join 40 7;join 1 1;join 09 20"));
        Check.due("44 members", 3, x.memberCount());
        Check.due("44 first", "0:0/0/40v7", Check.line(x, 0));
        Check.due("44 third", "2:0/0/9v20", Check.line(x, 2));
        Check.due("44 assign", 1, Check.run(x, "assign 0300"));
        Check.due("44 quota", 240, x.quota(0));
        Check.due("44 rule", 1, Check.run(x, "rule 1"));
        Check.due("44 rule before", 1, x.setRule(0));
        Check.due("44 assign few", 1, Check.run(x, "assign 5"));
        Check.due("44 sell", 2, Check.run(x, "sell 0 8;sell 2 01"));
        Check.due("44 sales", 9, x.sales(0) + x.sales(2));
        Check.due("44 seed and audit", 2, Check.run(x, "seed 1023;audit 3"));
        Check.due("44 warned", 'w', x.standing(0));
        Check.due("44 pardon", 1, Check.run(x, "pardon 0"));
        Check.due("44 loyal", 'l', x.standing(0));
        Check.due("44 link", 2, Check.run(x, "link 0-1;link 2-0"));
        Check.due("44 links", 2, x.linkCount());
        Check.due("44 cut", 1, Check.run(x, "cut 1-0"));
        Check.due("44 link left", true, x.areLinked(0, 2));
        Check.due("44 limit", 1, Check.run(x, "limit 99"));
        Check.due("44 limit before", 99, x.setThreshold(10));
        Check.due("44 close", 1, Check.run(x, "close"));
        Check.due("44 month", 1, x.month());
        Check.due("44 ten closes", 10, Check.run(x, "close;close;close;close;close;close;close;close;close;close"));
        Check.due("44 months", 11, x.month());
        Check.fails("44 buffer is empty", Check.ARGUMENT, x::execute);
        Check.due("45 at 0", 0, x.faultPosition());
    }

    private static void fault(String text, int want) {
        ThunderCartel x = Check.cartel(9, 1);
        Check.feed(x, text);
        Check.fails("44 '" + text + "'", Check.ARGUMENT, x::execute);
        Check.due("45 '" + text + "'", want, x.faultPosition());
        Check.due("44 buffer is empty after '" + text + "'", 1, x.feed('x'));
        Check.due("44 nothing was done by '" + text + "'", 0, x.month());
    }

    private static void faults() {
        fault("", 0);
        fault(" ", 0);
        fault(";", 0);
        fault("Close", 0);
        fault("x", 0);
        String[] names = {"join 1 2", "assign 1234", "rule 1", "sell 1 23", "audit 1", "close",
            "link 0-1", "cut 0-1", "pardon 1", "limit 12", "seed 1234"};
        for (String name : names) {
            fault(name + ";", name.length() + 1);
            fault(name + " ", name.length());
            fault(name + ";;", name.length() + 1);
            fault(name + "; close", name.length() + 1);
            fault("close;" + name + "\n", 6 + name.length());
            int digits = 0;
            for (int i = 1; i < name.length(); i++) {
                if (name.charAt(i - 1) > '9' || name.charAt(i - 1) < '0') {
                    fault(name.substring(0, i), i);
                }
                fault(name.substring(0, i) + "?" + name.substring(i), i);
                fault("close;" + name.substring(0, i) + "Q", 6 + i);
                digits += name.charAt(i) >= '0' && name.charAt(i) <= '9' ? 1 : 0;
            }
            Check.due("the command has its numbers: " + name, name.equals("close"), digits == 0);
        }
        fault("join 1 234", 9);
        fault("join 123 4", 7);
        fault("join 12", 7);
        fault("join  1 2", 5);
        fault("assign 12345", 11);
        fault("rule 12", 6);
        fault("sell 12 3", 6);
        fault("sell 1 234", 9);
        fault("audit 12", 7);
        fault("link 01-2", 6);
        fault("link 0-12", 8);
        fault("link 0 1", 6);
        fault("cut 0-12", 7);
        fault("pardon 00", 8);
        fault("limit 100", 8);
        fault("seed 01024", 9);
        fault("seed -1", 5);
        fault("closed", 5);
        fault("se", 2);
        fault("sed", 2);
        fault("see 1", 3);
        fault("lin", 3);
        fault("lik", 2);
        fault("cl-", 2);
        fault("cu ", 2);
        fault("as 1", 2);
        fault("au 1", 2);
        fault("rule " + (char) 0x0661, 5);
        fault("close" + (char) 0, 5);
        fault("close" + (char) 0x3B3B, 5);
        fault("close;close;close;close;close;close;close;close;close;close;", 60);
        fault("close;close;close;close;close;close;close;close;sell 1 2;cut", 60);
        fault("close;close;close;close;close;close;close;close;sell 1 2;cux", 59);
    }

    private static void faultIsKept() {
        ThunderCartel x = Check.cartel(9, 1);
        Check.feed(x, "closer");
        Check.fails("44 closer", Check.ARGUMENT, x::execute);
        Check.run(x, "close");
        Check.due("45 kept over a text that matches", 5, x.faultPosition());
        Check.feed(x, "rule 0");
        Check.fails("44 denied", Check.DENIED, x::execute);
        Check.due("45 kept over a denial", 5, x.faultPosition());
        x.undo();
        Check.due("45 kept over undo", 5, x.faultPosition());
        Check.feed(x, "ru");
        Check.fails("44 ru", Check.ARGUMENT, x::execute);
        Check.due("45 the last", 2, x.faultPosition());
    }

    private static void failing(String text, int index, int cause) {
        ThunderCartel x = Check.cartel(9, 1, 9, 2);
        x.sell(1, 9);
        Check.feed(x, text);
        Check.fails("44 " + text, Check.DENIED, x::execute);
        Check.due("48 " + text, 8, x.denial());
        Check.due("49 " + text, index, x.denialDetail());
        Check.due("50 " + text, cause, x.denialCause());
        Check.due("44 as before " + text, "1:9/0/9v2", Check.line(x, 1));
        Check.due("44 members " + text, 2, x.memberCount());
        Check.due("44 links " + text, 0, x.linkCount());
        Check.due("44 month " + text, 0, x.month());
        Check.due("44 seed " + text, 0, x.setSeed(3));
        Check.due("44 threshold " + text, 10, x.setThreshold(3));
        Check.due("44 rule " + text, 0, x.setRule(1));
        Check.due("44 no change " + text, 6, x.undoCount());
    }

    private static void allOrNone() {
        failing("join 5 5;link 0-1;link 1-2;assign 9;seed 77;audit 3;rule 0", 6, 7);
        failing("limit 12;rule 1;close;pardon 0", 3, 5);
        failing("audit 2;audit 2;audit 2;sell 1 1", 3, 2);
        failing("sell 0 1;cut 0-1", 1, 4);
        failing("limit 10", 0, 7);
    }

    private static void causes() {
        failing("join 1 1;join 1 1;join 1 1;join 1 1;join 1 1;join 1 1", 5, 1);
        failing("sell 0 10", 0, 3);
        failing("sell 1 1", 0, 3);
        failing("audit 3", 0, 6);
        failing("link 0-1;link 1-0", 1, 4);
        for (String text : new String[] {"join 0 1", "join 1 0", "join 1 21", "assign 301", "assign 9999",
            "rule 2", "sell 2 1", "sell 0 0", "sell 0 00", "audit 0", "audit 8", "link 0-0", "link 0-2",
            "cut 1-1", "cut 9-0", "pardon 2", "limit 0", "seed 1024"}) {
            failing(text, 0, 9);
            failing("close;" + text, 1, 9);
        }
    }

    private static void denials() {
        ThunderCartel x = Check.cartel(9, 1);
        Check.fails("48 none", Check.ELEMENT, x::denial);
        Check.fails("49 none", Check.ELEMENT, x::denialDetail);
        Check.fails("50 none", Check.ELEMENT, x::denialCause);
        Check.denied("48 first", x, 7, 0, () -> x.setRule(0));
        Check.fails("48 an exception of another kind", Check.ARGUMENT, () -> x.setRule(5));
        x.close();
        Check.due("48 kept", 7, x.denial());
        x.undo();
        Check.due("48 kept over undo", 7, x.denial());
        x.saveSnapshot();
        Check.denied("48 next", x, 5, 0, () -> x.pardon(0));
        x.restoreSnapshot();
        Check.due("48 kept over a snapshot", 5, x.denial());
        Check.due("49 kept over a snapshot", 0, x.denialDetail());
        Check.feed(x, "close;rule 0");
        Check.fails("44 denied", Check.DENIED, x::execute);
        Check.due("50 cause", 7, x.denialCause());
        Check.due("49 index", 1, x.denialDetail());
        Check.feed(x, "q");
        Check.fails("44 q", Check.ARGUMENT, x::execute);
        Check.due("50 kept over a fault", 7, x.denialCause());
        Check.denied("50 no cause any more", x, 3, 9, () -> x.sell(0, 10));
    }

    private static void lines() {
        ThunderCartel x = Check.cartel(9, 1, 9, 1, 40, 7);
        Check.fails("47 empty", Check.INDEX, () -> x.lineCharacter(0));
        x.sell(2, 30);
        Check.due("46 plain", 11, x.writeMember(2));
        Check.due("46 plain", "2:30/0/40v7", Check.line(x, 2));
        x.audit(3);
        Check.due("46 one warning", "2:30/0/40v7!", Check.line(x, 2));
        x.audit(3);
        x.setRule(1);
        x.assign(36);
        Check.due("46 the example's form", "2:30/26/40v7!!", Check.line(x, 2));
        Check.due("46 length", 14, x.writeMember(2));
        Check.due("47 first", '2', x.lineCharacter(0));
        Check.due("47 last", '!', x.lineCharacter(13));
        Check.fails("47 behind", Check.INDEX, () -> x.lineCharacter(14));
        Check.fails("47 before", Check.INDEX, () -> x.lineCharacter(-1));
        x.audit(3);
        Check.due("47 the line stays", '!', x.lineCharacter(13));
        Check.due("46 barred", "2:30/26/40v7xx", Check.line(x, 2));
        x.assign(0);
        x.close();
        x.close();
        Check.due("46 for one month", "2:0/0/40v7x", Check.line(x, 2));
        Check.due("46 shorter", 9, x.writeMember(0));
        Check.fails("47 replaced", Check.INDEX, () -> x.lineCharacter(9));
        Check.fails("46 no member", Check.INDEX, () -> x.writeMember(3));
        Check.fails("46 below", Check.INDEX, () -> x.writeMember(-1));
        Check.due("47 not replaced by an exception", '0', x.lineCharacter(0));
        x.undo();
        Check.due("47 kept over undo", 'v', x.lineCharacter(7));
    }
}
