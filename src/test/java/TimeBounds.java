/** MINUTES of the Description at its limits, and promises 24 to 27. */
final class TimeBounds {
    private static final int[] FAR = {Integer.MAX_VALUE, Integer.MIN_VALUE};

    private TimeBounds() {
    }

    static void look() {
        lastTime();
        orderOfAMinute();
        trucksByNumber();
        ridersInOrder();
        tripsOfADay();
        tripsByNumber();
        totals();
        totalsRefused();
        forecastMinutes();
        forecastRefused();
        forecastBeyond();
        runsOut();
        runsOutAtTheEndOfAMinute();
        runsOutLimits();
        pass();
        passRefused();
    }

    private static BikeShare at(String city, int time) {
        BikeShare x = Check.city(city);
        while (x.time() < time) {
            x.pass(Math.min(1440, time - x.time()));
        }
        return x;
    }

    // ---- MINUTES

    private static void lastTime() {
        Document.says(0, "MINUTES. The time is 0 at first, at most 9999. In each minute that passes, first the time increases by 1.");
        BikeShare x = Check.city("station 0 0 4 2;");
        Check.due("at first", x.time(), 0);
        x.pass(1);
        Check.due("a minute", x.time(), 1);
        BikeShare late = at("fare hour*100+minutes;station 0 0 4 2;trip 0 0 1359;", 9998);
        int paid = late.total(0);
        late.pass(1);
        Check.due("the last", late.time(), 9999);
        Check.due("its trip begins, at its hour", late.total(0) - paid, 2201);
        Check.badState(late, "no more", () -> late.pass(1));
        Check.due("a ride still begins", late.rent(0, 0), 10000);
        Check.due("as the trip's rider would arrive", late.rider(1, 0), 10000);
    }

    private static void orderOfAMinute() {
        Document.says(0, "Then the trucks that arrive now (by their numbers) are parked and go on as described. Then the riders who arrive"
                + " now do so,");
        String city = "pace 10 10;station 0 0 4 4;station 5 0 2 2;station 9 0 9 0;truck 0 4;";
        BikeShare x = Check.city(city);
        x.rent(0, 1);
        x.dispatch(0, 1, 1);
        Check.due("the truck frees a dock for the rider", x.pass(6), 1);
        BikeShare y = Check.city(city.replace("station 5 0 2 2", "station 5 0 2 1"));
        y.dispatch(0, 0, 3);
        y.rent(0, 1);
        y.dispatch(0, 1, 2);
        Check.due("the truck takes the dock from the rider", y.pass(6), 0);
        Check.due("who is turned away", y.total(4), 1);
        Check.due("to the nearest", y.rider(0, 1), 2);
        BikeShare z = Check.city("pace 10 10;station 0 0 4 1;station 5 0 1 1;trip 1 0 6;");
        z.rent(0, 1);
        z.pass(6);
        Check.due("the rider comes before the trip frees the dock", z.total(4), 1);
        BikeShare trip = Check.city("pace 10 10;station 0 0 4 1;station 5 0 1 0;trip 1 0 6;");
        trip.rent(0, 1);
        trip.pass(6);
        Check.due("the rider brings the bike for the trip", trip.total(2), 2);
        Check.due("which is not lost", trip.total(3), 0);
        BikeShare taken = Check.city("pace 10 10;station 0 0 4 0;station 5 0 1 1;truck 0 4;trip 1 0 6;");
        taken.dispatch(0, 1, 0);
        taken.pass(6);
        Check.due("the truck takes the bike before the trip", taken.total(3), 1);
    }

    private static void trucksByNumber() {
        BikeShare x = Check.city("pace 0 10;station 0 0 9 0;station 5 0 9 4;truck 0 2;truck 0 2;truck 0 2;");
        x.dispatch(2, 1, 0);
        x.dispatch(1, 1, 0);
        x.dispatch(0, 1, 0);
        x.pass(6);
        int[] due = {2, 2, 0};
        for (int i = 0; i < 3; i++) {
            Check.due("truck " + i, x.truck(i, 3), due[i]);
        }
        BikeShare on = Check.city("pace 0 0;station 0 0 9 0;station 5 0 9 4;truck 0 4;truck 1 4;");
        on.dispatch(0, 1, 0);
        on.dispatch(0, 1, 3);
        on.dispatch(1, 0, 0);
        on.dispatch(1, 1, 2);
        on.pass(1);
        Check.due("truck 0 goes on before truck 1 arrives", on.bikes(1), 3);
        Check.due("truck 1 drives back", on.truck(1, 1), 1);
        on.pass(1);
        Check.due("and takes one", on.bikes(1), 2);
    }

    private static void ridersInOrder() {
        Document.says(0, "in the order in which their rides began.");
        // Both arrive at minute 11 at station 1 with one free dock; the first to begin gets it.
        BikeShare x = Check.city("station 0 0 4 4;station 10 0 3 2;station 10 5 4 4;");
        x.rent(0, 1);
        x.pass(5);
        x.rent(2, 1);
        Check.due("one ends", x.pass(6), 1);
        Check.due("the other began later", x.rider(0, 2), 2);
        BikeShare y = Check.city("station 10 5 4 4;station 10 0 3 2;station 0 0 4 4;");
        y.rent(2, 1);
        y.pass(5);
        y.rent(0, 1);
        Check.due("one ends", y.pass(6), 1);
        Check.due("by the beginning, not by the station", y.rider(0, 2), 0);
    }

    private static void tripsOfADay() {
        Document.says(0, "Then, for each trip (by number) whose minute is the time modulo 1440, a ride from its first station to its second"
                + " one begins, or it is lost if there is no bike.");
        // How often a trip of a minute has begun at a time.
        int[][] due = {{0, 0, 0}, {0, 1, 0}, {0, 1439, 0}, {0, 1440, 1}, {0, 2879, 1}, {0, 2880, 2}, {0, 9999, 6}, {1, 0, 0}, {1, 1, 1},
            {1, 1440, 1}, {1, 1441, 2}, {1, 9999, 7}, {1439, 1438, 0}, {1439, 1439, 1}, {1439, 1440, 1}, {1439, 2878, 1},
            {1439, 2879, 2}, {1439, 9999, 6}, {1359, 9998, 6}, {1359, 9999, 7}, {1360, 9999, 6}};
        for (int[] row : due) {
            String what = "minute " + row[0] + " at " + row[1];
            BikeShare x = at("station 0 0 9 5;station 1 0 9 0;trip 0 0 " + row[0] + ";", row[1]);
            Check.due(what, x.total(2), row[2]);
            Check.due(what + " is not lost", x.total(3), 0);
            BikeShare y = at("station 0 0 9 0;station 1 0 9 5;trip 0 1 " + row[0] + ";", row[1]);
            Check.due(what + " without a bike", y.total(2), 0);
            Check.due(what + " is lost", y.total(3), row[2]);
        }
    }

    private static void tripsByNumber() {
        BikeShare x = Check.city("station 0 0 9 2;station 1 0 9 0;trip 0 1 3;trip 0 0 3;trip 0 1 3;trip 1 0 3;");
        x.pass(3);
        Check.due("trip 0", x.ridesBetween(0, 1), 1);
        Check.due("trip 1", x.ridesBetween(0, 0), 1);
        Check.due("trip 2 and 3 are lost", x.total(3), 2);
        BikeShare all = Check.city("station 0 0 20 20;" + "trip 0 0 3;".repeat(30));
        all.pass(3);
        Check.due("20 of 30 begin", all.total(2), 20);
        Check.due("10 are lost", all.total(3), 10);
        Check.due("all end", all.pass(1), 20);
    }

    // ---- promises 24 to 26

    private static void totals() {
        Document.says(24, "- `what`: 0: the sum of all fares; 1: the sum of all bonuses; 2: rides that have begun; 3: trips that were lost; 4:"
                + " how often a rider was turned away; 5: bikes on trucks Returns a total.");
        BikeShare x = Check.city("pace 10 10;fare 30;bonus 100 4;station 0 0 9 6;station 5 0 1 1;station 9 0 9 0;truck 0 2;truck 0 1;"
                + "trip 2 0 1;trip 0 2 1;");
        for (int what = 0; what < 6; what++) {
            Check.due("at first " + what, x.total(what), 0);
        }
        x.rent(0, 1);
        x.dispatch(0, 0, 0);
        x.dispatch(1, 0, 0);
        x.pass(20);
        int[] due = {60, 8, 2, 1, 1, 3};
        for (int what = 0; what < 6; what++) {
            Check.due("total " + what, x.total(what), due[what]);
        }
    }

    private static void totalsRefused() {
        Document.says(24, "Throws `IllegalArgumentException` if what is out of range");
        for (BikeShare x : new BikeShare[] {new BikeShare(), Check.city("station 0 0 9 6;")}) {
            for (int what : new int[] {-1, 6, FAR[0], FAR[1]}) {
                Check.badArgument(x, "total " + what, () -> x.total(what));
            }
        }
    }

    private static void forecastMinutes() {
        Document.says(25, "Returns what a total will be after some minutes if only time passes. - `minutes`: 0 to 1440 - `what`: as in total"
                + " Returns the total.");
        String city = "pace 10 10;fare 30+hour;bonus 60 4;station 0 0 9 6;station 5 0 1 1;station 9 0 9 0;truck 0 2;trip 2 0 1;trip 0 2 1;"
                + "trip 0 1 1439;trip 0 0 0;";
        for (int minutes : new int[] {0, 1, 2, 5, 6, 7, 1438, 1439, 1440}) {
            BikeShare x = Check.city(city);
            x.rent(0, 1);
            x.dispatch(0, 1, 0);
            x.dispatch(0, 2, 1);
            BikeShare y = Check.city(city);
            y.rent(0, 1);
            y.dispatch(0, 1, 0);
            y.dispatch(0, 2, 1);
            if (minutes > 0) {
                y.pass(minutes);
            }
            for (int what = 0; what < 6; what++) {
                Check.due("total " + what + " after " + minutes, x.forecast(minutes, what), y.total(what));
            }
            Check.due("no time has passed", x.time(), 0);
        }
        BikeShare x = Check.city(city);
        Check.due("rides at the last minute of a day", x.forecast(1439, 2), 2);
        Check.due("rides of a day", x.forecast(1440, 2), 3);
        Check.due("lost trips now", x.forecast(0, 3), 0);
        Check.due("lost trips after one minute", x.forecast(1, 3), 1);
    }

    private static void forecastRefused() {
        Document.says(25, "Throws `IllegalArgumentException` if an argument is out of range");
        for (BikeShare x : new BikeShare[] {new BikeShare(), Check.city("station 0 0 9 6;")}) {
            for (int minutes : new int[] {-1, 1441, FAR[0], FAR[1]}) {
                for (int what : new int[] {0, 5, -1, 6}) {
                    Check.badArgument(x, "forecast " + minutes + ", " + what, () -> x.forecast(minutes, what));
                }
            }
            for (int what : new int[] {-1, 6, FAR[0], FAR[1]}) {
                Check.badArgument(x, "forecast 0, " + what, () -> x.forecast(0, what));
                Check.badArgument(x, "forecast 1440, " + what, () -> x.forecast(1440, what));
            }
            Check.due("forecast 0", x.forecast(0, 0), 0);
            Check.due("forecast 1440", x.forecast(1440, 5), 0);
        }
    }

    private static void forecastBeyond() {
        // Only pass is limited by the time 9999.
        BikeShare x = at("station 0 0 9 6;trip 0 0 1359;trip 0 0 1360;", 9998);
        int rides = x.total(2);
        Check.due("9999", x.forecast(1, 2), rides + 1);
        Check.due("10000", x.forecast(2, 2), rides + 2);
        Check.due("11438", x.forecast(1440, 2), rides + 2);
        x.pass(1);
        Check.due("a day behind 9999", x.forecast(1440, 2), rides + 3);
        BikeShare y = at("station 0 0 9 0;station 50 0 9 0;trip 0 1 1360;", 9990);
        y.addBikes(0, 1);
        Check.due("runs out at 10000", y.runsOut(0, false), 10);
    }

    private static void runsOut() {
        Document.says(26, "Returns after how many minutes a station has no bike, or no free dock, for the first time if only time passes."
                + " - `station`: a station - `docks`: false for bikes, true for free docks");
        StationBounds.noSuchStation(26, "runsOut of bikes", "Throws `IndexOutOfBoundsException` if there is no such station",
                (x, station) -> x.runsOut(station, false));
        StationBounds.noSuchStation(26, "runsOut of docks", "Throws `IndexOutOfBoundsException` if there is no such station",
                (x, station) -> x.runsOut(station, true));
        BikeShare x = Check.city("pace 10 10;station 0 0 3 2;station 5 0 2 0;trip 0 1 7;trip 0 1 9;trip 1 0 700;");
        Check.due("bikes of 0", x.runsOut(0, false), 9);
        Check.due("docks of 1", x.runsOut(1, true), 15);
        Check.due("bikes of 1 now", x.runsOut(1, false), 0);
        Check.due("docks of 0 never", x.runsOut(0, true), -1);
        x.pass(8);
        Check.due("from now on", x.runsOut(0, false), 1);
        x.pass(1);
        Check.due("now", x.runsOut(0, false), 0);
        Check.due("nothing has changed", x.time(), 9);
        BikeShare truck = Check.city("pace 10 10;station 0 0 3 2;station 5 0 2 0;truck 1 9;truck 0 9;");
        truck.dispatch(0, 0, 0);
        Check.due("a truck takes them", truck.runsOut(0, false), 6);
        truck.dispatch(1, 0, 0);
        truck.dispatch(1, 1, 2);
        Check.due("a truck fills the docks", truck.runsOut(1, true), 6);
    }

    private static void runsOutAtTheEndOfAMinute() {
        Document.says(26, "Returns the minutes, 0 to 1440, as it is at the end of a minute; NONE if 1440 minutes are not enough.");
        // At minute 6 a truck takes the last bike, and then a rider brings one.
        BikeShare x = Check.city("pace 10 10;station 0 0 3 1;station 5 0 9 9;truck 1 1;");
        x.dispatch(0, 0, 0);
        x.rent(1, 0);
        Check.due("no bike, but not at the end", x.runsOut(0, false), -1);
        // At minute 6 a rider takes the last dock, and then a trip frees one.
        BikeShare y = Check.city("pace 10 10;station 0 0 3 2;station 5 0 9 9;trip 0 1 6;");
        y.rent(1, 0);
        Check.due("no dock, but not at the end", y.runsOut(0, true), -1);
        BikeShare z = Check.city("pace 10 10;station 0 0 3 2;station 5 0 9 9;trip 0 1 7;");
        z.rent(1, 0);
        Check.due("no dock at the end", z.runsOut(0, true), 6);
    }

    private static void runsOutLimits() {
        for (int minute : new int[] {1, 2, 700, 1439, 0}) {
            BikeShare x = Check.city("station 0 0 9 1;station 5 0 9 0;trip 0 1 " + minute + ";");
            Check.due("trip at " + minute, x.runsOut(0, false), minute == 0 ? 1440 : minute);
        }
        BikeShare x = Check.city("station 0 0 9 1;station 5 0 9 0;trip 0 1 1;");
        x.pass(1);
        x.addBikes(0, 1);
        Check.due("1440 minutes are enough", x.runsOut(0, false), 1440);
        // A ride of 1440 minutes fills the only dock, one of 1441 comes too late.
        BikeShare enough = Check.city("pace 77 0;station 0 0 9 9;station 99 88 1 0;");
        Check.due("a ride of 1440 minutes", enough.rent(0, 1), 1440);
        Check.due("it fills the dock in time", enough.runsOut(1, true), 1440);
        BikeShare far = Check.city("pace 80 0;station 0 0 9 9;station 99 81 1 0;");
        Check.due("a ride of 1441 minutes", far.rent(0, 1), 1441);
        Check.due("1440 minutes are not enough", far.runsOut(1, true), -1);
        far.pass(1);
        Check.due("now they are", far.runsOut(1, true), 1440);
        Check.due("full now", Check.city("station 0 0 1 1;").runsOut(0, true), 0);
        BikeShare closed = Check.city("station 0 0 1 0;");
        closed.breakDock(0);
        Check.due("no working dock: no bike", closed.runsOut(0, false), 0);
        Check.due("no working dock: no dock", closed.runsOut(0, true), 0);
    }

    // ---- promise 27

    private static void pass() {
        Document.says(27, "Lets minutes pass. - `minutes`: 1 to 1440 Returns the number of rides that ended in this time.");
        BikeShare x = Check.city("station 0 0 9 9;station 5 0 2 0;trip 0 0 1;");
        x.rent(0, 1);
        x.rent(0, 1);
        x.rent(0, 1);
        Check.due("one minute", x.pass(1), 0);
        Check.due("the trip ends", x.pass(1), 1);
        Check.due("two end, one is turned away", x.pass(4), 2);
        Check.due("it ends", x.pass(6), 1);
        Check.due("none is left", x.pass(1428), 0);
        Check.due("time", x.time(), 1440);
        Check.due("1440 minutes", x.pass(1440), 1);
        Check.due("time", x.time(), 2880);
        Check.due("no stations", new BikeShare().pass(1440), 0);
    }

    private static void passRefused() {
        Document.says(27, "Throws `IllegalArgumentException` if minutes is out of range (checked first)");
        Document.says(27, "Throws `IllegalStateException` if the time would exceed 9999");
        BikeShare x = Check.city("station 0 0 9 9;");
        int[] wrong = {0, -1, 1441, FAR[0], FAR[1]};
        for (int minutes : wrong) {
            Check.badArgument(x, "pass " + minutes, () -> x.pass(minutes));
        }
        BikeShare late = at("station 0 0 9 9;", 8640);
        Check.badState(late, "to 10080", () -> late.pass(1440));
        Check.badState(late, "to 10000", () -> late.pass(1360));
        Check.due("to 9999", late.pass(1359), 0);
        for (int minutes : new int[] {1, 2, 1440}) {
            Check.badState(late, "beyond 9999 by " + minutes, () -> late.pass(minutes));
        }
        for (int minutes : wrong) {
            Check.badArgument(late, "the argument first: " + minutes, () -> late.pass(minutes));
        }
        late.undo();
        Check.due("to 9998", late.pass(1358), 0);
        Check.badState(late, "two are too many", () -> late.pass(2));
        Check.due("one is not", late.pass(1), 0);
    }
}
