import java.util.ArrayList;
import java.util.List;

/** CHANGES of the Description at its limits, and promises 28 and 31 to 37. */
final class ChangeBounds {
    private static final String CITY = "pace 10 10;balance 30;bonus 50 7;fare minutes+bikes*docks;station 0 0 4 4;station 5 0 4 0;"
            + "station 9 0 6 3;truck 0 3;truck 2 5;trip 2 1 9;trip 1 0 20;";
    private static final String NO_STATION = "Throws `IndexOutOfBoundsException` if there is no such station (checked first)";
    private static final int[] FAR = {Integer.MAX_VALUE, Integer.MIN_VALUE};
    private static final int CHANGES = 8;

    private ChangeBounds() {
    }

    static void look() {
        calls();
        none();
        eachIsOneChange();
        tenChanges();
        everythingInSnapshots();
        earliestPairs();
        parseStartsAnew();
        exceptionsOfArguments();
        exceptionsOfStates();
        questionsChangeNothing();
        rent();
        rentRefused();
        breakDock();
        repairDock();
        addBikes();
        removeBikes();
        countsRefused();
        undo();
        saveSnapshot();
        restoreSnapshot();
    }

    private static void calls() {
        Document.says(0, "A simulator of a bike share: stations with docks that can break, riders who rent by the minute and go on if they"
                + " find no dock, fares by a formula, bonuses for bringing bikes where they are scarce, trucks with orders, a daily"
                + " demand, forecasts, and the exact shortest tour by which a truck balances all stations.");
        Document.says(0, "An object is used for at most 512 calls after it has been made; what later calls answer is free.");
        BikeShare x = new BikeShare();
        Check.put(x, "station 0 0 20 20;");
        x.parse(18);
        // Two calls each, and two calls are behind them.
        for (int i = 1; i <= 254; i++) {
            Check.due("arrival", x.rent(0, 0), i);
            Check.due("ended", x.pass(1), 1);
        }
        Check.due("the 511th call", x.time(), 254);
        Check.due("the 512th call", x.total(2), 254);
    }

    private static void none() {
        Document.says(0, "The constants: - `NONE = -1`: What was asked for does not exist. The constructor and the methods follow, a promise"
                + " each: the signature, then what it does.");
        Check.due("NONE", BikeShare.NONE, -1);
    }

    // ---- CHANGES

    private static int change(BikeShare x, int kind) {
        switch (kind) {
            case 0:
                return x.pass(1);
            case 1:
                return x.rent(2, 0);
            case 2:
                return x.dispatch(1, 0, 1);
            case 3:
                return x.cancel(0);
            case 4:
                return x.breakDock(1);
            case 5:
                return x.repairDock(2);
            case 6:
                return x.addBikes(1, 3);
            default:
                return x.removeBikes(0, 4);
        }
    }

    /** Eleven changes, the last ten of which can be undone, slot 0 saved, and a text in the buffer. */
    private static BikeShare busy() {
        BikeShare x = Check.city(CITY);
        x.rent(2, 1);
        x.saveSnapshot(0);
        x.dispatch(0, 1, 2);
        for (int i = 0; i < 6; i++) {
            x.dispatch(0, i % 3, i);
        }
        x.breakDock(2);
        x.pass(2);
        x.addBikes(2, 1);
        Check.put(x, "station 7 7 5 4;balance 7;");
        return x;
    }

    private static void eachIsOneChange() {
        Document.says(0, "CHANGES. The methods from pass to removeBikes change the data if they succeed.");
        for (int kind = 0; kind < CHANGES; kind++) {
            BikeShare x = Check.city(CITY);
            x.breakDock(2);
            x.dispatch(0, 1, 2);
            x.dispatch(0, 1, 3);
            List<Integer> before = Check.everything(x);
            change(x, kind);
            Check.due("change " + kind, Check.everything(x).equals(before), false);
            Check.due("change " + kind + " is one", x.undo(), 3);
            Check.due("change " + kind + " is undone", Check.everything(x).equals(before), true);
        }
    }

    private static void tenChanges() {
        Document.says(0, "The latest 10 changes can be undone, the latest first.");
        for (int changes = 0; changes <= 23; changes++) {
            BikeShare x = Check.city(CITY);
            List<List<Integer>> states = new ArrayList<>();
            for (int i = 0; i < changes; i++) {
                states.add(Check.everything(x));
                x.pass(i + 1);
            }
            int most = Math.min(10, changes);
            for (int left = most - 1; left >= 0; left--) {
                Check.due("of " + changes + " to " + left, x.undo(), left);
                Check.due("of " + changes + " the state", Check.everything(x).equals(states.get(changes - most + left)), true);
            }
            Check.due("of " + changes + " no more", x.undo(), -1);
            int time = (changes - most) * (changes - most + 1) / 2;
            Check.due("of " + changes + " the earliest", x.time(), time);
        }
    }

    private static void everythingInSnapshots() {
        Document.says(0, "There are two snapshot slots, 0 and 1; a snapshot holds everything that changes can change.");
        for (int kind = 0; kind < CHANGES; kind++) {
            for (int slot = 0; slot < 2; slot++) {
                BikeShare x = busy();
                x.removeBikes(2, 1);
                List<Integer> before = Check.everything(x);
                x.saveSnapshot(slot);
                change(x, kind);
                x.pass(100);
                Check.due("restored", x.restoreSnapshot(slot), true);
                Check.due("before change " + kind, Check.everything(x).equals(before), true);
                BikeShare y = busy();
                y.removeBikes(2, 1);
                Check.due("and goes on as before", change(x, kind), change(y, kind));
                Check.due("with the same orders", x.pass(200), y.pass(200));
                Check.due("to the same end", Check.everything(x).equals(Check.everything(y)), true);
            }
        }
    }

    /** The order of first rides belongs to a state too, though only ties show it. */
    private static void earliestPairs() {
        BikeShare x = Check.city(CITY);
        x.saveSnapshot(0);
        x.rent(2, 0);
        x.rent(0, 2);
        x.saveSnapshot(1);
        x.undo();
        x.undo();
        x.rent(0, 2);
        x.rent(2, 0);
        Check.due("undone and done the other way", x.busiestPair(), 2);
        x.restoreSnapshot(1);
        Check.due("as it was saved", x.busiestPair(), 16);
        x.restoreSnapshot(0);
        Check.due("before both", x.busiestPair(), -1);
        x.rent(0, 2);
        x.rent(2, 0);
        Check.due("the other way again", x.busiestPair(), 2);
        x.rent(2, 0);
        Check.due("most", x.busiestPair(), 16);
        x.undo();
        Check.due("undone", x.busiestPair(), 2);
    }

    private static void parseStartsAnew() {
        Document.says(0, "A successful parse sets everything to the beginning, clears the undo history and empties both slots.");
        BikeShare x = busy();
        x.saveSnapshot(1);
        x.parse(0);
        Check.parse(x, CITY);
        Check.due("everything is at the beginning", Check.everything(x).equals(Check.everything(Check.city(CITY))), true);
        Check.due("no history", x.undo(), -1);
        Check.due("slot 0", x.restoreSnapshot(0), false);
        Check.due("slot 1", x.restoreSnapshot(1), false);
        Check.due("as a new object with that city", Twins.usedUp(x).equals(Twins.usedUp(Check.city(CITY))), true);
        BikeShare empty = busy();
        empty.saveSnapshot(1);
        Check.due("an empty text succeeds too", empty.parse(0), 0);
        Check.due("as a new object", Twins.usedUp(empty).equals(Twins.usedUp(new BikeShare())), true);
        String text = "bonus 100 4;station 0 0 9 6;station 5 0 1 1;station 9 0 9 0;truck 0 2;trip 2 0 1;trip 0 2 1;";
        BikeShare all = Check.city(text);
        all.rent(0, 1);
        all.dispatch(0, 0, 0);
        all.breakDock(2);
        all.pass(20);
        for (int what = 0; what < 6; what++) {
            Check.due("there is something of total " + what, all.total(what) > 0, true);
        }
        Check.parse(all, text);
        Check.due("all totals are at the beginning", Twins.usedUp(all).equals(Twins.usedUp(Check.city(text))), true);
    }

    private static void index(String what, Twins.Deed deed) {
        Twins.refused(what, IndexOutOfBoundsException.class, ChangeBounds::busy, deed);
    }

    private static void argument(String what, Twins.Deed deed) {
        Twins.refused(what, IllegalArgumentException.class, ChangeBounds::busy, deed);
    }

    private static void state(String what, Twins.Deed deed) {
        Twins.refused(what, IllegalStateException.class, ChangeBounds::busy, deed);
    }

    private static void exceptionsOfArguments() {
        Document.says(0, "A method that throws an exception changes nothing.");
        argument("parse", x -> x.parse(41));
        argument("size", x -> x.size(3));
        index("bikes", x -> x.bikes(3));
        index("freeDocks", x -> x.freeDocks(3));
        index("brokenDocks", x -> x.brokenDocks(3));
        index("isBalanced", x -> x.isBalanced(3) ? 1 : 0);
        index("nearest", x -> x.nearest(3, true));
        index("rideMinutes", x -> x.rideMinutes(0, 3));
        index("quote", x -> x.quote(3, 0));
        index("bonusAt", x -> x.bonusAt(3));
        index("bestDeal", x -> x.bestDeal(3));
        index("rider", x -> x.rider(1, 0));
        argument("rider", x -> x.rider(0, 3));
        index("ridesBetween", x -> x.ridesBetween(0, 3));
        index("truck", x -> x.truck(2, 0));
        argument("truck", x -> x.truck(0, 6));
        index("tourMinutes", x -> x.tourMinutes(2));
        index("tourStop", x -> x.tourStop(2, 0));
        argument("total", x -> x.total(6));
        argument("forecast of minutes", x -> x.forecast(1441, 0));
        argument("forecast of a total", x -> x.forecast(1440, 6));
        index("runsOut", x -> x.runsOut(3, true));
        argument("pass 0", x -> x.pass(0));
        argument("pass 1441", x -> x.pass(1441));
        index("rent from", x -> x.rent(3, 0));
        index("rent to", x -> x.rent(0, 3));
        index("dispatch of a truck", x -> x.dispatch(2, 0, 0));
        index("dispatch to a station", x -> x.dispatch(1, 3, 0));
        argument("dispatch to a target", x -> x.dispatch(1, 0, 21));
        index("cancel", x -> x.cancel(2));
        index("breakDock", x -> x.breakDock(3));
        index("repairDock", x -> x.repairDock(3));
        index("addBikes", x -> x.addBikes(3, 1));
        argument("addBikes 0", x -> x.addBikes(1, 0));
        argument("addBikes 21", x -> x.addBikes(1, 21));
        index("removeBikes", x -> x.removeBikes(3, 1));
        argument("removeBikes 0", x -> x.removeBikes(2, 0));
        argument("removeBikes 21", x -> x.removeBikes(2, 21));
    }

    private static void exceptionsOfStates() {
        state("tourMinutes of one that drives", x -> x.tourMinutes(0));
        state("tourStop of one that drives", x -> x.tourStop(0, 0));
        state("rent without a bike", x -> x.rent(1, 0));
        state("a seventh order", x -> x.dispatch(0, 0, 0));
        state("breakDock without a free one", x -> x.breakDock(0));
        state("repairDock without a broken one", x -> x.repairDock(0));
        state("addBikes without free docks", x -> x.addBikes(0, 1));
        state("addBikes with too few free docks", x -> x.addBikes(1, 5));
        state("removeBikes without bikes", x -> x.removeBikes(1, 1));
        state("removeBikes with too few bikes", x -> x.removeBikes(0, 5));
        Twins.refused("pass beyond the last time", IllegalStateException.class, ChangeBounds::late, x -> x.pass(60));
        Twins.unchanged("no change to undo", () -> Check.city(CITY), x -> x.undo(), -1);
    }

    private static BikeShare late() {
        BikeShare x = busy();
        for (int i = 0; i < 6; i++) {
            x.pass(1440);
        }
        x.pass(1298);
        Check.due("the time", x.time(), 9940);
        return x;
    }

    private static void questionsChangeNothing() {
        Twins.unchanged("tourMinutes", ChangeBounds::busy, x -> Math.min(0, x.tourMinutes(1)), 0);
        Twins.unchanged("forecast", ChangeBounds::busy, x -> x.forecast(1440, 5) * 0, 0);
        Twins.unchanged("runsOut", ChangeBounds::busy, x -> x.runsOut(1, true) * 0, 0);
        Twins.unchanged("quote", ChangeBounds::busy, x -> x.quote(1, 2) * 0, 0);
        Twins.unchanged("bestDeal", ChangeBounds::busy, x -> x.bestDeal(1) * 0, 0);
    }

    // ---- promise 28

    private static void rent() {
        Document.says(28, "Begins a ride now. - `from`: a station - `to`: a station Returns the time of the arrival.");
        BikeShare x = Check.city("pace 99 0;fare bikes;station 0 0 20 3;station 99 99 1 0;");
        Check.due("the longest way", x.rent(0, 1), 1961);
        x.pass(9);
        Check.due("to the same", x.rent(0, 0), 10);
        Check.due("the last bike", x.rent(0, 1), 1970);
        Check.due("three rides", x.total(2), 3);
        Check.due("three fares", x.total(0), 3 + 2 + 1);
        Check.due("three riders", x.riders(), 3);
    }

    private static void rentRefused() {
        StationBounds.noSuchStation(28, "rent from", NO_STATION, (x, s) -> x.rent(s, 0));
        StationBounds.noSuchStation(28, "rent to", NO_STATION, (x, s) -> x.rent(0, s) + 0 * x.undo());
        Document.says(28, "Throws `IllegalStateException` if there is no bike at from");
        BikeShare x = Check.city("station 0 0 20 1;station 9 9 1 1;");
        Check.due("one bike", x.rent(0, 1), 19);
        Check.badState(x, "none", () -> x.rent(0, 1));
        Check.badState(x, "none to the same", () -> x.rent(0, 0));
        for (int wrong : new int[] {-1, 2, 8, FAR[0], FAR[1]}) {
            Check.noStation(x, "the station first: " + wrong, () -> x.rent(0, wrong));
        }
        Check.due("a full station is no hindrance", x.rent(1, 1), 1);
    }

    // ---- promises 31 and 32

    private static void breakDock() {
        Document.says(31, "Breaks a free dock. - `station`: a station Returns the number of broken docks of the station then.");
        StationBounds.noSuchStation(31, "breakDock", NO_STATION, BikeShare::breakDock);
        Document.says(31, "Throws `IllegalStateException` if there is no free dock");
        BikeShare x = Check.city("station 0 0 20 18;station 9 9 1 0;station 5 5 3 3;");
        Check.due("one", x.breakDock(0), 1);
        Check.due("the last free one", x.breakDock(0), 2);
        Check.badState(x, "none is free", () -> x.breakDock(0));
        Check.due("the bikes stay", x.bikes(0), 18);
        Check.due("the only dock", x.breakDock(1), 1);
        Check.badState(x, "all are broken", () -> x.breakDock(1));
        Check.badState(x, "all are taken", () -> x.breakDock(2));
    }

    private static void repairDock() {
        Document.says(32, "Repairs a broken dock, which is free then. - `station`: a station Returns the number of broken docks of the"
                + " station then.");
        Document.says(32, NO_STATION);
        BikeShare x = Check.city("station 0 0 20 0;station 9 9 1 0;");
        for (int wrong : new int[] {-1, 2, 8, FAR[0], FAR[1]}) {
            Check.noStation(x, "repairDock of " + wrong, () -> x.repairDock(wrong));
        }
        Document.says(32, "Throws `IllegalStateException` if there is no broken dock");
        Check.badState(x, "none is broken", () -> x.repairDock(0));
        for (int i = 1; i <= 20; i++) {
            x.breakDock(0);
        }
        Check.badState(x, "none of the other is broken", () -> x.repairDock(1));
        for (int i = 19; i >= 0; i--) {
            Check.due("repaired", x.repairDock(0), i);
            Check.due("free then", x.freeDocks(0), 20 - i);
        }
        Check.badState(x, "none is broken any more", () -> x.repairDock(0));
    }

    // ---- promises 33 and 34

    private static void addBikes() {
        Document.says(33, "Adds new bikes to a station. - `station`: a station - `count`: 1 to 20 Returns the number of all bikes then (see"
                + " fleet).");
        Document.says(33, "Throws `IllegalStateException` if there are fewer free docks");
        BikeShare x = Check.city("station 0 0 20 0;station 0 0 4 3;truck 1 1;");
        Check.due("20", x.addBikes(0, 20), 23);
        Check.badState(x, "full", () -> x.addBikes(0, 1));
        Check.badState(x, "two into one dock", () -> x.addBikes(1, 2));
        Check.due("one into one dock", x.addBikes(1, 1), 24);
        x.rent(1, 0);
        x.dispatch(0, 1, 0);
        Check.due("with riders and trucks", x.addBikes(1, 1), 25);
        x.breakDock(1);
        Check.badState(x, "the last dock is broken", () -> x.addBikes(1, 1));
        Check.due("no ride", x.total(2), 1);
    }

    private static void removeBikes() {
        Document.says(34, "Removes bikes from a station for good. - `station`: a station - `count`: 1 to 20 Returns the number of all bikes"
                + " then (see fleet).");
        Document.says(34, "Throws `IllegalStateException` if there are fewer bikes at the station");
        BikeShare x = Check.city("station 0 0 20 20;station 0 0 4 3;truck 1 1;");
        x.rent(1, 0);
        x.dispatch(0, 1, 0);
        Check.badState(x, "two of one", () -> x.removeBikes(1, 2));
        Check.due("one of one", x.removeBikes(1, 1), 22);
        Check.badState(x, "one of none", () -> x.removeBikes(1, 1));
        Check.due("20", x.removeBikes(0, 20), 2);
        Check.badState(x, "none left", () -> x.removeBikes(0, 1));
        Check.due("all docks are free", x.freeDocks(0), 20);
        x.pass(100);
        Check.due("for good", x.fleet(), 2);
    }

    private static void countsRefused() {
        Document.says(33, NO_STATION);
        Document.says(34, NO_STATION);
        BikeShare x = Check.city("station 0 0 20 10;station 0 0 4 4;station 0 0 4 0;");
        for (int wrong : new int[] {-1, 3, 8, FAR[0], FAR[1]}) {
            for (int count : new int[] {1, 20, 0, 21, -1}) {
                Check.noStation(x, "addBikes at " + wrong + ", " + count, () -> x.addBikes(wrong, count));
                Check.noStation(x, "removeBikes at " + wrong + ", " + count, () -> x.removeBikes(wrong, count));
            }
        }
        Document.says(33, "Throws `IllegalArgumentException` if count is out of range (checked second)");
        Document.says(34, "Throws `IllegalArgumentException` if count is out of range (checked second)");
        for (int count : new int[] {0, -1, 21, FAR[0], FAR[1]}) {
            for (int station = 0; station < 3; station++) {
                int at = station;
                Check.badArgument(x, "addBikes " + count + " at " + at, () -> x.addBikes(at, count));
                Check.badArgument(x, "removeBikes " + count + " at " + at, () -> x.removeBikes(at, count));
            }
        }
        Check.badState(x, "20 are in range, but too many", () -> x.addBikes(0, 20));
        Check.badState(x, "20 are in range, but too many", () -> x.removeBikes(0, 20));
        Check.due("nothing to undo", x.undo(), -1);
    }

    // ---- promises 35 to 37

    private static void undo() {
        Document.says(35, "Undoes the latest change that has not been undone. Returns the number of changes that can still be undone; NONE if"
                + " there was none to undo.");
        BikeShare x = Check.city(CITY);
        Check.due("nothing to undo", x.undo(), -1);
        x.pass(1);
        Check.due("none is left", x.undo(), 0);
        Check.due("nothing to undo", x.undo(), -1);
        Check.due("the time", x.time(), 0);
        for (int i = 1; i <= 12; i++) {
            x.pass(i);
        }
        Check.due("the latest", x.undo(), 9);
        Check.due("the time", x.time(), 66);
        Check.due("the one before", x.undo(), 8);
        Check.due("the time", x.time(), 55);
        x.pass(100);
        Check.due("a new one", x.undo(), 8);
        Check.due("the time", x.time(), 55);
        x.pass(1);
        x.pass(1);
        x.pass(1);
        Check.due("ten at most", x.undo(), 9);
        for (int left = 8; left >= 0; left--) {
            Check.due("left", x.undo(), left);
        }
        Check.due("the eleventh remains", x.time(), 6);
        Check.due("nothing to undo", x.undo(), -1);
        Check.due("a new object", new BikeShare().undo(), -1);
    }

    private static void saveSnapshot() {
        Document.says(36, "Saves a snapshot, in place of what the slot held before. - `slot`: 0 or 1 Returns true; false if there is no such"
                + " slot.");
        BikeShare x = Check.city(CITY);
        for (int slot = 0; slot < 2; slot++) {
            x.pass(1);
            Check.due("saved", x.saveSnapshot(slot), true);
            x.pass(1);
            Check.due("saved again", x.saveSnapshot(slot), true);
        }
        x.restoreSnapshot(0);
        Check.due("the latest of slot 0", x.time(), 2);
        x.restoreSnapshot(1);
        Check.due("the latest of slot 1", x.time(), 4);
        for (int slot : new int[] {-1, 2, FAR[0], FAR[1]}) {
            Twins.unchanged("save " + slot, ChangeBounds::busy, y -> y.saveSnapshot(slot) ? 1 : 0, 0);
        }
        BikeShare none = new BikeShare();
        Check.due("without stations", none.saveSnapshot(1), true);
        Check.due("without stations", none.restoreSnapshot(1), true);
        BikeShare kept = busy();
        kept.saveSnapshot(1);
        Check.due("the history stays", kept.undo(), 9);
    }

    private static void restoreSnapshot() {
        Document.says(37, "Restores a snapshot and clears the undo history. The snapshot stays in its slot. - `slot`: 0 or 1 Returns true;"
                + " false, with nothing changed, if there is no such slot or it is empty.");
        for (int slot : new int[] {-1, 2, FAR[0], FAR[1]}) {
            Twins.unchanged("restore " + slot, ChangeBounds::busy, y -> y.restoreSnapshot(slot) ? 1 : 0, 0);
        }
        Twins.unchanged("restore the empty slot", ChangeBounds::busy, y -> y.restoreSnapshot(1) ? 1 : 0, 0);
        Twins.unchanged("restore an empty slot of a new object", BikeShare::new, y -> y.restoreSnapshot(0) ? 1 : 0, 0);
        BikeShare x = Check.city(CITY);
        x.pass(7);
        List<Integer> saved = Check.everything(x);
        x.saveSnapshot(1);
        for (int i = 0; i < 3; i++) {
            x.rent(2, 0);
            x.pass(30);
            Check.due("restored", x.restoreSnapshot(1), true);
            Check.due("as it was saved", Check.everything(x).equals(saved), true);
            Check.due("no history", x.undo(), -1);
        }
        Check.due("the other is empty", x.restoreSnapshot(0), false);
    }
}
