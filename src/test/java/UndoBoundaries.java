/** Promises 51 to 54, sentence by sentence. */
final class UndoBoundaries {
    interface Change {
        Object make(ThunderCartel cartel);
    }

    /** Each kind of change once, each with a difference on the object that the function some makes. */
    static final Change[] CHANGES = {x -> x.addMember(5, 5), x -> x.pardon(2),
        x -> x.pardon(1), x -> x.setRule(0), x -> x.assign(22),
        x -> x.sell(1, 1), x -> x.audit(3), ThunderCartel::close, x -> x.link(1, 2), x -> x.unlink(0, 1),
        x -> x.setThreshold(3), x -> x.setSeed(1), x -> Check.run(x, "sell 1 1;close;seed 5;limit 4;rule 0")};

    private UndoBoundaries() {
    }

    static void run() {
        undo();
        undoRefused();
        undoCount();
        saveSnapshot();
        replacedSnapshot();
        restoreSnapshot();
        restoreSnapshotRefused();
    }

    /** An object on which nothing is as it was initially. */
    static ThunderCartel some() {
        ThunderCartel x = Check.cartel(40, 7, 30, 6, 9, 2);
        x.assign(20);
        x.link(0, 1);
        x.sell(0, 40);
        x.sell(2, 9);
        x.audit(3);
        x.close();
        x.sell(0, 40);
        x.sell(2, 9);
        x.audit(3);
        x.sell(1, 20);
        x.audit(3);
        x.setThreshold(12);
        x.setRule(1);
        x.setSeed(9);
        return x;
    }

    /** All that can be told of the object, whose threshold, rule and seed are other ones afterwards. */
    static String all(ThunderCartel x) {
        return Check.look(x) + " " + x.setThreshold(98) + " " + rule(x) + " " + x.setSeed(0);
    }

    private static int rule(ThunderCartel x) {
        try {
            return x.setRule(0);
        } catch (UnsupportedOperationException denied) {
            return 0;
        }
    }

    private static void undo() {
        Doc.says(51, "Undoes the latest change that can be undone.");
        ThunderCartel x = Check.members(1);
        for (int i = 0; i < 8; i++) {
            x.sell(0, 1);
        }
        for (int left = 7; left >= 0; left--) {
            x.undo();
            Check.due("one after the other", left, x.sales(0));
        }
        String want = all(some());
        for (int i = 0; i < CHANGES.length; i++) {
            ThunderCartel y = some();
            CHANGES[i].make(y);
            Check.due("the count before it is undone, " + i, 7, y.undo());
            Check.due("each kind of change, " + i, want, all(y));
            ThunderCartel changed = some();
            CHANGES[i].make(changed);
            Check.due("each makes a difference, " + i, false, want.equals(all(changed)));
        }
        Doc.says(51, "Returns the number of changes that can be undone afterwards.");
        ThunderCartel y = Check.members(7);
        Check.due("of seven", 6, y.undo());
        y.close();
        y.close();
        Check.due("of eight", 7, y.undo());
        y.close();
        y.close();
        Check.due("of nine, of which one is forgotten", 7, y.undo());
        for (int left = 6; left >= 0; left--) {
            Check.due("to none", left, y.undo());
        }
        Check.due("the forgotten one stays", 1, y.memberCount());
    }

    private static void undoRefused() {
        Doc.says(51, "Throws `IllegalStateException` if there is none");
        ThunderCartel x = new ThunderCartel();
        Check.refused("new", Check.STATE, x, x::undo);
        Check.fails("a call that throws is no change", Check.DENIED, () -> x.setRule(0));
        Check.refused("denied", Check.STATE, x, x::undo);
        x.close();
        x.undo();
        Check.refused("undone already", Check.STATE, x, x::undo);
        x.close();
        x.saveSnapshot();
        x.restoreSnapshot();
        Check.refused("restored", Check.STATE, x, x::undo);
        x.close();
        Check.due("a change after that", 0, x.undo());
        Check.due("back to the snapshot", 1, x.month());
        Check.refused("none again", Check.STATE, x, x::undo);
    }

    private static void undoCount() {
        Doc.says(52, "Returns the number of changes that can be undone.");
        ThunderCartel x = new ThunderCartel();
        Check.due("none", 0, x.undoCount());
        for (int changes = 1; changes <= 20; changes++) {
            x.close();
            Check.due("at most eight", changes < 8 ? changes : 8, x.undoCount());
        }
        x.undo();
        Check.due("seven", 7, x.undoCount());
        x.saveSnapshot();
        Check.due("a snapshot is no change", 7, x.undoCount());
        x.restoreSnapshot();
        Check.due("none after a snapshot", 0, x.undoCount());
    }

    private static void saveSnapshot() {
        Doc.says(53, "Saves a snapshot of everything that changes can change; it replaces an earlier snapshot.");
        String want = all(some());
        for (int i = 0; i < CHANGES.length; i++) {
            ThunderCartel x = some();
            x.saveSnapshot();
            CHANGES[i].make(x);
            x.restoreSnapshot();
            Check.due("each kind of change, " + i, want, all(x));
        }
        Doc.says(53, "Returns the number of members.");
        Check.due("none", 0, new ThunderCartel().saveSnapshot());
        Check.due("seven", 7, Check.members(7).saveSnapshot());
    }

    private static void replacedSnapshot() {
        Doc.says(53, "Saves a snapshot of everything that changes can change; it replaces an earlier snapshot.");
        ThunderCartel x = Check.members(7);
        x.saveSnapshot();
        for (int i = 0; i < 7; i++) {
            x.undo();
        }
        Check.due("an empty one", 0, x.saveSnapshot());
        x.addMember(5, 5);
        Check.due("in the place of a full one", 0, x.restoreSnapshot());
        Check.due("no members", 0, x.memberCount());
        x.close();
        x.saveSnapshot();
        x.undo();
        x.restoreSnapshot();
        Check.due("an undo does not touch it", 1, x.month());
        ThunderCartel y = Check.cartel(40, 7);
        y.saveSnapshot();
        y.undo();
        y.addMember(30, 6);
        y.restoreSnapshot();
        Check.due("nor does another member in its place", "40 7", y.capacity(0) + " " + y.votes(0));
    }

    private static void restoreSnapshot() {
        Doc.says(54, "Restores the snapshot, which is kept.");
        ThunderCartel x = Check.members(1);
        x.saveSnapshot();
        for (int i = 0; i < 3; i++) {
            x.sell(0, 9);
            x.addMember(5, 5);
            x.restoreSnapshot();
            Check.due("each time", "99/1/0", x.capacity(0) + "/" + x.memberCount() + "/" + x.sales(0));
        }
        Doc.says(54, "No change can be undone afterwards.");
        for (int changes : new int[] {0, 1, 8, 9}) {
            ThunderCartel y = new ThunderCartel();
            y.saveSnapshot();
            for (int i = 0; i < changes; i++) {
                y.close();
            }
            y.restoreSnapshot();
            Check.due("after " + changes, 0, y.undoCount());
            Check.fails("after " + changes, Check.STATE, y::undo);
            for (int i = 0; i < 9; i++) {
                y.close();
            }
            for (int i = 0; i < 8; i++) {
                y.undo();
            }
            Check.due("eight changes later", 1, y.month());
        }
        Doc.says(54, "Returns the number of members afterwards.");
        ThunderCartel none = new ThunderCartel();
        none.saveSnapshot();
        none.addMember(5, 5);
        Check.due("none", 0, none.restoreSnapshot());
        ThunderCartel seven = Check.members(7);
        seven.saveSnapshot();
        seven.undo();
        Check.due("seven", 7, seven.restoreSnapshot());
    }

    private static void restoreSnapshotRefused() {
        Doc.says(54, "Throws `IllegalStateException` if there is no snapshot");
        ThunderCartel x = Check.members(2);
        Check.refused("none", Check.STATE, x, x::restoreSnapshot);
        Check.due("the changes can be undone", 1, x.undo());
        Check.refused("an undo saves none", Check.STATE, x, x::restoreSnapshot);
    }
}
