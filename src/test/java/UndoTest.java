import java.util.ArrayList;
import java.util.List;

/** Promises 35 to 37: undo, saveSnapshot, restoreSnapshot. */
public final class UndoTest {
    private static final String CITY = "pace 10 10;bonus 60 9;fare minutes*2+hour;station 0 0 9 5;station 4 3 6 2;"
            + "station 9 9 4 4;truck 0 6;truck 1 2;trip 0 1 3;trip 1 2 9;trip 2 0 70;";
    private static final int KINDS = 9;

    private UndoTest() {
    }

    public static void main(String[] args) {
        everyChange();
        tenChanges();
        afterUndo();
        whatIsNoChange();
        snapshots();
        snapshotAndHistory();
        earliestPair();
        slots();
        snapshotKeepsItsState();
        Check.end("UndoTest");
    }

    private static int change(BikeShare x, int kind) {
        switch (kind) {
            case 0:
                return x.pass(1440);
            case 1:
                return x.rent(0, 2);
            case 2:
                return x.dispatch(0, 0, 1);
            case 3:
                return x.dispatch(0, 2, 1);
            case 4:
                return x.cancel(1);
            case 5:
                return x.breakDock(0);
            case 6:
                return x.repairDock(0);
            case 7:
                return x.addBikes(1, 2);
            default:
                return x.removeBikes(2, 3);
        }
    }

    /** A city in which everything is already under way. */
    private static BikeShare busy() {
        BikeShare x = Check.city(CITY);
        x.rent(0, 1);
        x.dispatch(1, 2, 0);
        x.dispatch(1, 0, 0);
        x.dispatch(1, 1, 0);
        x.breakDock(0);
        x.pass(5);
        return x;
    }

    private static void everyChange() {
        for (int kind = 0; kind < KINDS; kind++) {
            BikeShare x = busy();
            List<Integer> before = Check.everything(x);
            change(x, kind);
            Check.due("change " + kind + " is one", Check.everything(x).equals(before), false);
            Check.due("change " + kind + " is the seventh", x.undo(), 6);
            Check.due("change " + kind + " is undone", Check.everything(x).equals(before), true);
            int again = change(x, kind);
            Check.due("the same again", change(busy(), kind), again);
        }
    }

    private static void tenChanges() {
        BikeShare x = Check.city(CITY);
        List<List<Integer>> states = new ArrayList<>();
        for (int i = 0; i < 25; i++) {
            states.add(Check.everything(x));
            x.pass(i + 1);
        }
        for (int left = 9; left >= 0; left--) {
            Check.due("undo to " + left, x.undo(), left);
            Check.due("the state " + left, Check.everything(x).equals(states.get(15 + left)), true);
        }
        Check.due("no more", x.undo(), -1);
        Check.due("still none", x.undo(), -1);
        Check.due("the state stays", Check.everything(x).equals(states.get(15)), true);
    }

    private static void afterUndo() {
        BikeShare x = Check.city(CITY);
        for (int i = 0; i < 12; i++) {
            x.pass(1);
        }
        Check.due("one", x.undo(), 9);
        Check.due("two", x.undo(), 8);
        x.pass(100);
        Check.due("the new one is the latest", x.undo(), 8);
        Check.due("time", x.time(), 10);
        x.pass(100);
        x.pass(100);
        x.pass(100);
        Check.due("ten again at most", x.undo(), 9);
        for (int left = 8; left >= 0; left--) {
            Check.due("left", x.undo(), left);
        }
        Check.due("the eleventh before", x.time(), 3);
        Check.due("none", x.undo(), -1);
        x.pass(1);
        Check.due("one more", x.undo(), 0);
        Check.due("time", x.time(), 3);
    }

    private static void whatIsNoChange() {
        BikeShare x = Check.city(CITY);
        x.pass(1);
        Check.everything(x);
        x.tourMinutes(0);
        x.tourStop(0, 0);
        x.saveSnapshot(0);
        x.append(0, 0, 0, 0, 0);
        Check.parse(x, "");
        Check.due("a parse clears the history", x.undo(), -1);
        BikeShare y = Check.city(CITY);
        y.pass(1);
        Check.everything(y);
        y.tourMinutes(0);
        y.tourStop(0, 0);
        y.saveSnapshot(0);
        y.append(0, 0, 0, 0, 0);
        y.parse(20);
        Check.due("only the pass", y.undo(), 0);
        Check.due("back", y.time(), 0);
        Check.due("the snapshot stays", y.restoreSnapshot(0), true);
        Check.due("with its time", y.time(), 1);
    }

    private static void snapshots() {
        for (int kind = 0; kind < KINDS; kind++) {
            BikeShare x = busy();
            List<Integer> before = Check.everything(x);
            Check.due("save", x.saveSnapshot(kind % 2), true);
            change(x, kind);
            Check.due("restore", x.restoreSnapshot(kind % 2), true);
            Check.due("all as before change " + kind, Check.everything(x).equals(before), true);
            Check.due("the history is empty", x.undo(), -1);
            Check.due("the same again", change(x, kind), change(busy(), kind));
        }
    }

    private static void snapshotAndHistory() {
        BikeShare x = Check.city(CITY);
        x.pass(1);
        x.pass(1);
        x.saveSnapshot(0);
        x.pass(1);
        Check.due("saving keeps the history", x.undo(), 2);
        Check.due("undo", x.undo(), 1);
        Check.due("the slot holds what it held", x.restoreSnapshot(0), true);
        Check.due("time", x.time(), 2);
        Check.due("no history", x.undo(), -1);
        x.pass(1);
        Check.due("a new history", x.undo(), 0);
        Check.due("time", x.time(), 2);
    }

    private static void earliestPair() {
        BikeShare x = Check.city(CITY);
        x.saveSnapshot(0);
        x.rent(1, 0);
        x.rent(0, 1);
        x.saveSnapshot(1);
        Check.due("from 1 to 0 began earlier", x.busiestPair(), 8);
        x.restoreSnapshot(0);
        x.rent(0, 1);
        x.rent(1, 0);
        Check.due("from 0 to 1 began earlier", x.busiestPair(), 1);
        x.restoreSnapshot(1);
        Check.due("as it was saved", x.busiestPair(), 8);
        x.undo();
        x.restoreSnapshot(0);
        Check.due("none", x.busiestPair(), -1);
        x.rent(0, 1);
        x.rent(1, 0);
        x.rent(0, 2);
        x.undo();
        x.undo();
        x.undo();
        x.rent(1, 0);
        x.rent(0, 1);
        Check.due("after undoing", x.busiestPair(), 8);
    }

    private static void slots() {
        BikeShare x = Check.city(CITY);
        for (int wrong : new int[] {-1, 2, Integer.MAX_VALUE, Integer.MIN_VALUE}) {
            Check.due("save " + wrong, x.saveSnapshot(wrong), false);
            Check.due("restore " + wrong, x.restoreSnapshot(wrong), false);
        }
        x.pass(1);
        Check.due("0 is empty", x.restoreSnapshot(0), false);
        Check.due("1 is empty", x.restoreSnapshot(1), false);
        Check.due("nothing changed", x.time(), 1);
        x.saveSnapshot(1);
        x.pass(1);
        Check.due("0 is empty still", x.restoreSnapshot(0), false);
        Check.due("nothing changed, the history neither", x.undo(), 1);
        x.pass(1);
        x.saveSnapshot(0);
        x.pass(1);
        Check.due("1", x.restoreSnapshot(1), true);
        Check.due("its time", x.time(), 1);
        Check.due("0", x.restoreSnapshot(0), true);
        Check.due("its time", x.time(), 2);
        x.saveSnapshot(1);
        Check.due("1 again", x.restoreSnapshot(1), true);
        Check.due("in place of what it held", x.time(), 2);
        BikeShare none = new BikeShare();
        none.pass(5);
        Check.due("without a city", none.saveSnapshot(0), true);
        none.pass(5);
        Check.due("restored", none.restoreSnapshot(0), true);
        Check.due("its time", none.time(), 5);
    }

    private static void snapshotKeepsItsState() {
        BikeShare x = busy();
        List<Integer> before = Check.everything(x);
        x.saveSnapshot(0);
        for (int round = 0; round < 3; round++) {
            for (int kind = KINDS - 1; kind >= 0; kind--) {
                change(x, kind);
            }
            x.undo();
            Check.due("restore", x.restoreSnapshot(0), true);
            Check.due("the snapshot stays in its slot", Check.everything(x).equals(before), true);
        }
    }
}
