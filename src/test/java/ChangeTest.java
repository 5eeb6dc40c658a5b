/** Promises 27 to 34: pass, rent, dispatch, cancel, breakDock, repairDock, addBikes, removeBikes. */
public final class ChangeTest {
    private static final int[] FAR = {Integer.MAX_VALUE, Integer.MIN_VALUE};

    private ChangeTest() {
    }

    public static void main(String[] args) {
        pass();
        passOrder();
        passLimits();
        rent();
        rentRefused();
        dispatch();
        dispatchRefused();
        cancel();
        docks();
        docksRefused();
        bikes();
        bikesRefused();
        manyRiders();
        manyRides();
        Check.end("ChangeTest");
    }

    private static void pass() {
        BikeShare x = Check.city("pace 10 10;station 0 0 9 9;station 5 0 9 0;trip 0 1 2;trip 0 1 8;");
        Check.due("a minute", x.pass(1), 0);
        x.rent(0, 0);
        x.rent(0, 1);
        Check.due("one ends", x.pass(1), 1);
        Check.due("in 5 minutes one more, in 6 two", x.pass(5), 1);
        Check.due("the trip ends", x.pass(1), 1);
        Check.due("the second trip is on its way", x.riders(), 1);
        Check.due("it ends", x.pass(1440), 2);
        Check.due("time", x.time(), 1448);
        Check.due("trips of the next day", x.total(2), 6);
    }

    private static void passOrder() {
        // A rider who arrives finds the dock that a trip frees only one minute later.
        BikeShare x = Check.city("pace 10 10;station 0 0 9 1;station 5 0 1 1;trip 1 0 6;");
        x.rent(0, 1);
        x.pass(6);
        Check.due("the rider arrives before the trip begins", x.total(4), 1);
        // A rider who arrives brings the bike with which a trip begins.
        BikeShare y = Check.city("pace 10 10;station 0 0 9 1;station 5 0 1 0;trip 1 0 6;");
        y.rent(0, 1);
        Check.due("the ride ends", y.pass(6), 1);
        Check.due("the trip has its bike", y.total(3), 0);
        Check.due("and begins", y.total(2), 2);
        // Trips by their number: the first takes the only bike.
        BikeShare z = Check.city("pace 10 10;station 0 0 9 1;station 5 0 1 0;trip 0 1 6;trip 0 0 6;");
        z.pass(6);
        Check.due("the first", z.ridesBetween(0, 1), 1);
        Check.due("not the second", z.ridesBetween(0, 0), 0);
        Check.due("which is lost", z.total(3), 1);
        // The time of a ride is that after the minute began.
        BikeShare hour = Check.city("fare hour;station 0 0 9 1;trip 0 0 60;");
        hour.pass(60);
        Check.due("the hour of a trip", hour.total(0), 1);
        Check.due("its arrival", hour.rider(0, 0), 61);
    }

    private static void passLimits() {
        BikeShare x = Check.city("station 0 0 9 1;");
        for (int wrong : new int[] {0, -1, 1441, FAR[0], FAR[1]}) {
            Check.badArgument(x, "pass " + wrong, () -> x.pass(wrong));
        }
        for (int i = 0; i < 6; i++) {
            x.pass(1440);
        }
        Check.badState(x, "to 10080", () -> x.pass(1440));
        Check.badState(x, "to 10000", () -> x.pass(1360));
        Check.badArgument(x, "the argument is checked first", () -> x.pass(1441));
        Check.due("to 9999", x.pass(1359), 0);
        Check.due("9999", x.time(), 9999);
        Check.badState(x, "one more", () -> x.pass(1));
        Check.due("a ride beyond it", x.rent(0, 0), 10000);
        Check.due("seven changes passed, one rented", x.undo(), 7);
        Check.due("the last pass", x.undo(), 6);
        Check.due("undone", x.time(), 8640);
    }

    private static void rent() {
        BikeShare x = Check.city("pace 20 10;fare 5;station 0 0 9 2;station 5 0 9 0;");
        x.pass(10);
        Check.due("arrival", x.rent(0, 1), 21);
        Check.due("to itself", x.rent(0, 0), 11);
        Check.due("no bike left", x.bikes(0), 0);
        Check.due("all free", x.freeDocks(0), 9);
        Check.due("fares", x.total(0), 10);
        Check.due("rides", x.total(2), 2);
        Check.due("counted", x.ridesBetween(0, 1), 1);
        Check.due("on the way", x.riders(), 2);
        Check.due("no trip is lost", x.total(3), 0);
    }

    private static void rentRefused() {
        BikeShare x = Check.city("station 0 0 9 2;station 5 0 9 0;");
        Check.badState(x, "no bike", () -> x.rent(1, 0));
        for (int s : new int[] {-1, 2, FAR[0], FAR[1]}) {
            Check.noStation(x, "from " + s, () -> x.rent(s, 0));
            Check.noStation(x, "to " + s, () -> x.rent(0, s));
            Check.noStation(x, "the station is checked first: " + s, () -> x.rent(1, s));
        }
        Check.due("nothing to undo", x.undo(), -1);
    }

    private static void dispatch() {
        BikeShare x = Check.city("pace 10 10;station 0 0 20 9;station 5 0 20 0;truck 0 20;truck 1 20;");
        x.dispatch(0, 0, 0);
        Check.due("target 0", x.truck(0, 3), 9);
        x.dispatch(0, 0, 20);
        Check.due("target 20", x.truck(0, 3), 0);
        x.dispatch(0, 1, 3);
        for (int i = 1; i <= 6; i++) {
            Check.due("order " + i, x.dispatch(0, i % 2, i), i);
        }
        Check.due("the other truck has its own", x.dispatch(1, 0, 5), 0);
        Check.due("six waiting", x.truck(0, 5), 6);
    }

    private static void dispatchRefused() {
        BikeShare x = Check.city("pace 10 10;station 0 0 20 9;station 5 0 20 0;truck 0 20;");
        x.dispatch(0, 1, 3);
        for (int i = 0; i < 6; i++) {
            x.dispatch(0, 0, 3);
        }
        Check.badState(x, "a seventh", () -> x.dispatch(0, 1, 3));
        for (int wrong : new int[] {-1, 21, FAR[0], FAR[1]}) {
            Check.badArgument(x, "target " + wrong, () -> x.dispatch(0, 1, wrong));
        }
        for (int wrong : new int[] {-1, 2, FAR[0], FAR[1]}) {
            Check.noStation(x, "truck " + wrong, () -> x.dispatch(wrong, 1, 21));
            Check.noStation(x, "station " + wrong, () -> x.dispatch(0, wrong, 21));
            Check.noStation(x, "truck and full " + wrong, () -> x.dispatch(wrong, 1, 3));
            Check.noStation(x, "station and full " + wrong, () -> x.dispatch(0, wrong, 3));
        }
        Check.noStation(x, "truck 1", () -> x.dispatch(1, 0, 3));
        Check.due("seven to undo", x.undo(), 6);
        Check.due("there is place again", x.dispatch(0, 1, 3), 6);
    }

    private static void cancel() {
        BikeShare x = Check.city("pace 10 10;station 0 0 20 9;station 5 0 20 8;station 9 0 20 7;truck 0 20;truck 0 3;");
        Check.due("nothing to cancel", x.cancel(0), 0);
        Check.due("a change all the same", x.undo(), 0);
        x.dispatch(0, 1, 3);
        x.dispatch(0, 2, 3);
        x.dispatch(0, 0, 3);
        x.dispatch(1, 1, 0);
        x.dispatch(1, 2, 3);
        Check.due("two cancelled", x.cancel(0), 2);
        Check.due("none is waiting", x.truck(0, 5), 0);
        Check.due("it drives on", x.truck(0, 1), 1);
        Check.due("the other keeps its order", x.truck(1, 5), 1);
        x.pass(6);
        Check.due("and carries out its order", x.truck(0, 3), 5);
        Check.due("and stays there", x.truck(0, 0), 1);
        Check.due("the other drives on", x.truck(1, 1), 2);
        for (int wrong : new int[] {-1, 2, FAR[0], FAR[1]}) {
            Check.noStation(x, "cancel " + wrong, () -> x.cancel(wrong));
        }
        x.undo();
        Check.due("undone", x.undo(), 5);
        Check.due("two are waiting again", x.truck(0, 5), 2);
        x.pass(11);
        Check.due("and are carried out", x.truck(0, 0), -1);
        Check.due("at", x.truck(0, 2), 21);
    }

    private static void docks() {
        BikeShare x = Check.city("station 0 0 5 2;station 5 0 9 2;");
        Check.due("one", x.breakDock(0), 1);
        Check.due("of another", x.breakDock(1), 1);
        Check.due("two", x.breakDock(0), 2);
        Check.due("three", x.breakDock(0), 3);
        Check.due("none is free", x.freeDocks(0), 0);
        Check.due("the bikes stay", x.bikes(0), 2);
        Check.due("repaired", x.repairDock(0), 2);
        Check.due("free then", x.freeDocks(0), 1);
        Check.due("repaired", x.repairDock(0), 1);
        Check.due("repaired", x.repairDock(0), 0);
        Check.due("all free but two", x.freeDocks(0), 3);
        BikeShare y = Check.city("station 0 0 1 0;");
        y.breakDock(0);
        Check.due("no working dock", y.freeDocks(0), 0);
        Check.due("is balanced", y.isBalanced(0), true);
        Check.due("no bonus", y.bonusAt(0), 0);
    }

    private static void docksRefused() {
        BikeShare x = Check.city("station 0 0 5 4;station 5 0 9 2;");
        Check.badState(x, "nothing to repair", () -> x.repairDock(0));
        x.breakDock(0);
        Check.badState(x, "no free dock", () -> x.breakDock(0));
        Check.badState(x, "nothing to repair at 1", () -> x.repairDock(1));
        for (int wrong : new int[] {-1, 2, FAR[0], FAR[1]}) {
            Check.noStation(x, "break " + wrong, () -> x.breakDock(wrong));
            Check.noStation(x, "repair " + wrong, () -> x.repairDock(wrong));
        }
        Check.due("one to undo", x.undo(), 0);
    }

    private static void bikes() {
        BikeShare x = Check.city("station 0 0 20 0;station 5 0 9 2;truck 1 4;");
        x.rent(1, 1);
        x.dispatch(0, 1, 0);
        Check.due("20 more", x.addBikes(0, 20), 22);
        Check.due("all docks", x.freeDocks(0), 0);
        Check.due("20 less", x.removeBikes(0, 20), 2);
        Check.due("none", x.bikes(0), 0);
        Check.due("one", x.addBikes(1, 1), 3);
        Check.due("one less", x.removeBikes(1, 1), 2);
        Check.due("no rides by that", x.total(2), 1);
    }

    private static void bikesRefused() {
        BikeShare x = Check.city("station 0 0 5 3;station 5 0 9 2;");
        Check.badState(x, "three docks", () -> x.addBikes(0, 3));
        Check.badState(x, "four bikes", () -> x.removeBikes(0, 4));
        x.breakDock(0);
        Check.badState(x, "two docks, one broken", () -> x.addBikes(0, 2));
        for (int wrong : new int[] {-1, 0, 21, FAR[0], FAR[1]}) {
            Check.badArgument(x, "add " + wrong, () -> x.addBikes(0, wrong));
            Check.badArgument(x, "remove " + wrong, () -> x.removeBikes(0, wrong));
        }
        for (int wrong : new int[] {-1, 2, FAR[0], FAR[1]}) {
            Check.noStation(x, "add at " + wrong, () -> x.addBikes(wrong, 0));
            Check.noStation(x, "remove at " + wrong, () -> x.removeBikes(wrong, 21));
            Check.noStation(x, "add 9 at " + wrong, () -> x.addBikes(wrong, 9));
            Check.noStation(x, "remove 9 at " + wrong, () -> x.removeBikes(wrong, 9));
        }
        Check.due("one to undo", x.undo(), 0);
        Check.due("just enough docks", x.addBikes(0, 2), 7);
        Check.due("just enough bikes", x.removeBikes(0, 5), 2);
    }

    /** As many riders at once as the calls of one object can make. */
    private static void manyRiders() {
        BikeShare x = Check.city("pace 99 0;fare 9999;station 0 0 20 20;station 99 99 20 0;station 0 1 1 1;"
                + "trip 0 1 1;".repeat(30));
        int rents = 0;
        for (int calls = 0; calls < 440; calls++) {
            if (x.bikes(0) == 0) {
                x.addBikes(0, 20);
            } else {
                Check.due("arrival", x.rent(0, 1), 1961);
                rents++;
            }
        }
        x.addBikes(0, 20 - x.bikes(0));
        x.pass(1);
        Check.due("20 trips", x.total(2), rents + 20);
        Check.due("10 are lost", x.total(3), 10);
        Check.due("all are on their way", x.riders(), rents + 20);
        Check.due("the last of them", x.rider(rents + 19, 0), 1962);
        Check.due("fares", x.total(0), 9999L * (rents + 20));
        x.addBikes(0, 20);
        Check.due("nobody arrives within a day", x.forecast(1440, 4), 0);
        x.pass(1440);
        Check.due("20 find a dock", x.pass(520), 20);
        Check.due("the others are turned away", x.total(4), rents - 20);
    }

    /** More rides than 512, by the trips of seven days. */
    private static void manyRides() {
        BikeShare x = Check.city("pace 99 0;fare 1;station 0 0 20 20;station 99 0 20 20;station 0 99 20 20;"
                + "trip 0 0 5;trip 1 1 5;trip 2 2 5;".repeat(10));
        for (int day = 0; day < 6; day++) {
            x.pass(1440);
        }
        Check.due("180 rides", x.total(2), 180);
        int rents = 0;
        for (int calls = 0; calls < 440; calls++) {
            if (x.bikes(0) == 0) {
                x.addBikes(0, 20);
            } else {
                Check.due("arrival", x.rent(0, 1 + rents % 2), 8640 + 981);
                rents++;
            }
        }
        x.addBikes(0, 20 - x.bikes(0));
        x.pass(5);
        Check.due("rides", x.total(2), 210 + rents);
        Check.due("riders", x.riders(), 30 + rents);
        for (int i = 0; i < 30; i++) {
            Check.due("trips arrive first", x.rider(i, 0), 8646);
            Check.due("where they began", x.rider(i, 1), i % 3);
        }
        for (int i = 0; i < rents; i++) {
            Check.due("rents in order", x.rider(30 + i, 1), 1 + i % 2);
            Check.due("from 0", x.rider(30 + i, 2), 0);
            Check.due("at", x.rider(30 + i, 0), 9621);
        }
        Check.due("the trips end", x.pass(1), 30);
        Check.due("fares", x.total(0), 210 + rents);
    }
}
