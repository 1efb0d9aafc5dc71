/** Promises 51 to 54; each kind of change is undone in UndoBoundaries. */
public final class UndoTest {
    public static void main(String[] args) {
        eight();
        notChanges();
        undoOfTexts();
        snapshots();
        snapshotOfAll();
        Check.end();
    }

    private static void eight() {
        ThunderCartel x = Check.cartel(99, 1);
        Check.due("52 one", 1, x.undoCount());
        for (int i = 2; i <= 11; i++) {
            x.sell(0, 1);
            Check.due("52 at most eight", Math.min(i, 8), x.undoCount());
        }
        for (int i = 7; i >= 0; i--) {
            Check.due("51 left", i, x.undo());
            Check.due("51 sales", i + 2, x.sales(0));
            Check.due("52 left", i, x.undoCount());
        }
        Check.fails("51 none", Check.STATE, x::undo);
        Check.due("51 sales stay", 2, x.sales(0));
        Check.fails("51 none on a new object", Check.STATE, () -> new ThunderCartel().undo());
        for (int i = 0; i < 3; i++) {
            x.sell(0, 10);
        }
        x.undo();
        Check.due("51 sales after more changes", 22, x.sales(0));
        x.sell(0, 1);
        Check.due("52 in turn", 3, x.undoCount());
        x.undo();
        x.undo();
        x.undo();
        Check.due("51 back again", 2, x.sales(0));
    }

    private static void notChanges() {
        ThunderCartel x = Check.cartel(40, 7, 30, 6);
        Check.fails("52 denied", Check.DENIED, () -> x.setRule(0));
        Check.fails("52 wrong", Check.ARGUMENT, () -> x.setSeed(1024));
        Check.fails("52 no member", Check.INDEX, () -> x.sell(2, 1));
        x.saveSnapshot();
        x.writeMember(0);
        x.quotaBy(0, 5, 1);
        x.drawnMember(1);
        x.feed('q');
        Check.fails("52 no match", Check.ARGUMENT, x::execute);
        Check.feed(x, "close;rule 0");
        Check.fails("52 denied text", Check.DENIED, x::execute);
        Check.due("52 only the joins", 2, x.undoCount());
        x.setSeed(0);
        Check.due("52 a change without a difference", 3, x.undoCount());
        x.close();
        Check.due("52 close", 4, x.undoCount());
    }

    private static void undoOfTexts() {
        ThunderCartel x = new ThunderCartel();
        Check.run(x, "join 40 7;join 30 6;sell 0 9");
        Check.due("52 a text is one change", 1, x.undoCount());
        x.feed('c');
        Check.due("51 all of the text", 0, x.undo());
        Check.due("51 members", 0, x.memberCount());
        Check.due("51 the buffer stays", 2, x.feed('l'));
        Check.feed(x, "ose");
        Check.due("51 the text stays", 1, x.execute());
        x.feed('r');
        x.saveSnapshot();
        x.restoreSnapshot();
        Check.due("54 the buffer stays", 2, x.feed('u'));
    }

    private static void snapshots() {
        ThunderCartel x = new ThunderCartel();
        Check.fails("54 none", Check.STATE, x::restoreSnapshot);
        x.addMember(40, 7);
        Check.fails("54 still none", Check.STATE, x::restoreSnapshot);
        Check.due("54 failed, so undo is left", 1, x.undoCount());
        Check.due("53 one", 1, x.saveSnapshot());
        Check.due("53 undo is left", 1, x.undoCount());
        x.addMember(30, 6);
        Check.due("54 back to one", 1, x.restoreSnapshot());
        Check.due("54 members", 1, x.memberCount());
        Check.due("54 no undo", 0, x.undoCount());
        Check.fails("54 undo", Check.STATE, x::undo);
        x.sell(0, 5);
        x.close();
        Check.due("54 is kept", 1, x.restoreSnapshot());
        Check.due("54 month", 0, x.month());
        x.undoCount();
        x.addMember(1, 1);
        x.addMember(1, 1);
        Check.due("53 replaces", 3, x.saveSnapshot());
        x.undo();
        x.undo();
        Check.due("54 not affected by undo", 3, x.restoreSnapshot());
        Check.due("54 members again", 3, x.memberCount());
        Check.due("53 none", 0, new ThunderCartel().saveSnapshot());
        ThunderCartel y = Check.cartel(40, 7);
        y.saveSnapshot();
        y.undo();
        y.addMember(30, 6);
        y.restoreSnapshot();
        Check.due("54 the member of the snapshot", "0:0/0/40v7", Check.line(y, 0));
    }

    private static void snapshotOfAll() {
        ThunderCartel x = Check.cartel(40, 7, 30, 6, 9, 2);
        x.assign(7);
        x.link(0, 2);
        x.sell(0, 20);
        x.audit(3);
        x.close();
        x.sell(1, 11);
        x.setThreshold(12);
        x.setRule(1);
        x.setSeed(9);
        String saved = Check.look(x);
        x.saveSnapshot();
        Check.run(x, "pardon 0;cut 0-2;link 1-2;close;sell 2 2");
        Check.run(x, "limit 5;rule 0;seed 8");
        x.assign(99);
        x.addMember(1, 1);
        Check.due("54 changed", false, saved.equals(Check.look(x)));
        Check.due("54 members", 3, x.restoreSnapshot());
        Check.due("54 restored", saved, Check.look(x));
        Check.due("54 rule", 1, x.setRule(0));
        Check.due("54 threshold", 12, x.setThreshold(1));
        Check.due("54 seed", 9, x.setSeed(1));
    }
}
