/** STATIONS of the Description at its limits, and promises 7 to 12. */
final class StationBounds {
    private static final String EIGHT = "station 0 0 4 2;".repeat(8);

    private StationBounds() {
    }

    static void look() {
        docks();
        marks();
        balanced();
        distances();
        minutes();
        bikes();
        freeDocks();
        brokenDocks();
        isBalanced();
        imbalance();
        nearest();
    }

    /** Only the numbers of stations are stations: in a city of none, of one and of the most. */
    static void noSuchStation(int promise, String what, String sentence, Asked asked) {
        Document.says(promise, sentence);
        BikeShare[] cities = {new BikeShare(), Check.city("station 0 0 4 2;"), Check.city(EIGHT)};
        for (BikeShare x : cities) {
            int count = x.size(0);
            for (int station : new int[] {-1, count, 8, 9, Integer.MAX_VALUE, Integer.MIN_VALUE}) {
                Check.noStation(x, what + " of " + station + " of " + count, () -> asked.of(x, station));
            }
            for (int station = 0; station < count; station++) {
                asked.of(x, station);
            }
        }
    }

    interface Asked {
        long of(BikeShare x, int station);
    }

    // ---- STATIONS

    private static void docks() {
        Document.says(0, "STATIONS. A station has docks, of which some are broken (at first none); the others are its working"
                + " docks.");
        Document.says(0, "Each of its bikes is in a working dock; the working docks without a bike are free.");
        BikeShare x = Check.city("station 0 0 3 1;station 1 1 20 0;station 2 2 20 20;station 3 3 1 0;");
        int[] free = {2, 20, 0, 1};
        for (int i = 0; i < 4; i++) {
            Check.due("at first none is broken at " + i, x.brokenDocks(i), 0);
            Check.due("free at " + i, x.freeDocks(i), free[i]);
        }
        x.breakDock(0);
        x.breakDock(0);
        Check.due("none is free, one holds the bike", x.freeDocks(0), 0);
        Check.badState(x, "the dock with the bike cannot break", () -> x.breakDock(0));
        x.rent(0, 0);
        Check.due("it is free now", x.freeDocks(0), 1);
        x.breakDock(0);
        Check.due("all three are broken", x.brokenDocks(0), 3);
        Check.due("no working dock: no bike", x.bikes(0), 0);
        Check.due("no working dock: none free", x.freeDocks(0), 0);
        for (int i = 1; i <= 20; i++) {
            Check.due("broken", x.breakDock(1), i);
        }
        Check.badState(x, "a 21st", () -> x.breakDock(1));
    }

    private static int markOf(int docks, int percent) {
        // A station without bikes misses as many as its mark, as there are docks enough.
        return Check.city("balance " + percent + ";station 0 0 " + docks + " 0;").imbalance();
    }

    private static void marks() {
        Document.says(0, "The mark of a station is its number of working docks times the percent of balance, divided by 100"
                + " and rounded down.");
        int[][] due = {{10, 30, 3}, {9, 30, 2}, {11, 30, 3}, {20, 5, 1}, {19, 5, 0}, {20, 4, 0}, {1, 50, 0}, {2, 50, 1},
            {2, 49, 0}, {3, 50, 1}, {4, 50, 2}, {20, 50, 10}, {19, 50, 9}, {20, 49, 9}, {20, 0, 0}, {1, 0, 0},
            {3, 33, 0}, {4, 25, 1}, {4, 24, 0}, {20, 1, 0}};
        for (int[] row : due) {
            Check.due(row[1] + " percent of " + row[0], markOf(row[0], row[1]), row[2]);
        }
        BikeShare x = Check.city("balance 50;station 0 0 4 0;");
        int[] less = {1, 1, 0, 0};
        for (int mark : less) {
            x.breakDock(0);
            Check.due("only working docks count", x.imbalance(), mark);
        }
    }

    private static void balanced() {
        Document.says(0, "A station is balanced if it has at least as many bikes and at least as many free docks as its mark.");
        for (int bikes = 0; bikes <= 10; bikes++) {
            BikeShare x = Check.city("balance 30;station 0 0 10 " + bikes + ";");
            Check.due(bikes + " bikes of 10, mark 3", x.isBalanced(0), bikes >= 3 && bikes <= 7);
        }
        for (int bikes = 0; bikes <= 4; bikes++) {
            BikeShare x = Check.city("balance 50;station 0 0 4 " + bikes + ";");
            Check.due(bikes + " bikes of 4, mark 2", x.isBalanced(0), bikes == 2);
        }
    }

    private static void distances() {
        Document.says(0, "The distance of two stations is the sum of the absolute differences of their x and of their y.");
        BikeShare x = Check.city("station 50 50 4 2;station 47 48 4 2;station 53 48 4 2;station 47 52 4 2;station 53 52 4 2;"
                + "station 50 50 4 2;station 0 99 4 2;station 99 0 4 2;");
        int[] due = {0, 5, 5, 5, 5, 0, 99, 99};
        for (int i = 0; i < 8; i++) {
            Check.due("from 0 to " + i, x.rideMinutes(0, i), 1 + due[i]);
            Check.due("from " + i + " to 0", x.rideMinutes(i, 0), 1 + due[i]);
        }
        Check.due("the farthest", x.rideMinutes(6, 7), 199);
    }

    private static void minutes() {
        Document.says(0, "A rider needs 1 + distance * pace / 10 minutes from one station to another or the same, a truck"
                + " likewise with its own pace; the quotient is rounded down.");
        int[][] due = {{1, 9, 1}, {1, 10, 2}, {1, 19, 2}, {1, 20, 3}, {10, 1, 2}, {9, 1, 1}, {19, 1, 2}, {99, 99, 981},
            {99, 0, 1}, {0, 99, 1}};
        for (int[] row : due) {
            String what = "distance " + row[0] + ", pace " + row[1];
            String stations = "station 0 0 4 2;station " + row[0] + " 0 4 2;truck 0 1;";
            BikeShare x = Check.city("pace " + row[1] + " 0;" + stations);
            Check.due(what, x.rideMinutes(0, 1), row[2]);
            Check.due(what + " to the same", x.rideMinutes(1, 1), 1);
            BikeShare y = Check.city("pace 0 " + row[1] + ";" + stations);
            y.dispatch(0, 1, 0);
            Check.due(what + " by truck", y.truck(0, 2), row[2]);
        }
        BikeShare x = Check.city("pace 99 99;station 0 0 4 2;station 99 99 4 2;truck 1 1;");
        Check.due("the longest way", x.rideMinutes(0, 1), 1961);
        x.dispatch(0, 0, 0);
        Check.due("the longest way by truck", x.truck(0, 2), 1961);
    }

    // ---- promises 7 to 12

    private static void bikes() {
        Document.says(7, "- `station`: a station Returns the number of bikes at a station.");
        noSuchStation(7, "bikes", "Throws `IndexOutOfBoundsException` if there is no such station",
                (x, station) -> x.bikes(station));
        BikeShare x = Check.city("station 0 0 20 0;station 0 0 20 20;");
        Check.due("none", x.bikes(0), 0);
        Check.due("20", x.bikes(1), 20);
        x.rent(1, 0);
        Check.due("19", x.bikes(1), 19);
        x.pass(1);
        Check.due("1", x.bikes(0), 1);
    }

    private static void freeDocks() {
        Document.says(8, "- `station`: a station Returns the number of free docks of a station.");
        noSuchStation(8, "freeDocks", "Throws `IndexOutOfBoundsException` if there is no such station",
                (x, station) -> x.freeDocks(station));
        BikeShare x = Check.city("station 0 0 20 0;station 0 0 20 20;");
        Check.due("all", x.freeDocks(0), 20);
        Check.due("none", x.freeDocks(1), 0);
        x.rent(1, 0);
        Check.due("1", x.freeDocks(1), 1);
        x.pass(1);
        Check.due("19", x.freeDocks(0), 19);
    }

    private static void brokenDocks() {
        Document.says(9, "- `station`: a station Returns the number of broken docks of a station.");
        noSuchStation(9, "brokenDocks", "Throws `IndexOutOfBoundsException` if there is no such station",
                (x, station) -> x.brokenDocks(station));
        BikeShare x = Check.city("station 0 0 1 0;station 0 0 1 0;");
        Check.due("none", x.brokenDocks(1), 0);
        x.breakDock(1);
        Check.due("all", x.brokenDocks(1), 1);
        Check.due("none of the other", x.brokenDocks(0), 0);
        x.repairDock(1);
        Check.due("none again", x.brokenDocks(1), 0);
    }

    private static void isBalanced() {
        Document.says(10, "- `station`: a station Returns true if the station is balanced.");
        noSuchStation(10, "isBalanced", "Throws `IndexOutOfBoundsException` if there is no such station",
                (x, station) -> x.isBalanced(station) ? 1 : 0);
        BikeShare x = Check.city("balance 50;station 0 0 2 1;station 0 0 1 0;station 0 0 1 1;");
        Check.due("1 bike, 1 dock, mark 1", x.isBalanced(0), true);
        Check.due("no bike, mark 0", x.isBalanced(1), true);
        Check.due("no dock, mark 0", x.isBalanced(2), true);
        x.rent(0, 0);
        Check.due("no bike, mark 1", x.isBalanced(0), false);
        x.breakDock(0);
        Check.due("no bike, 1 working dock, mark 0", x.isBalanced(0), true);
        x.breakDock(0);
        Check.due("no working dock", x.isBalanced(0), true);
        x.repairDock(0);
        x.repairDock(0);
        x.addBikes(0, 2);
        Check.due("no dock, mark 1", x.isBalanced(0), false);
    }

    private static void imbalance() {
        Document.says(11, "Returns the imbalance: the sum, over all stations, of the bikes and of the free docks that are"
                + " missing to the mark of the station (a surplus counts 0).");
        Check.due("no station", new BikeShare().imbalance(), 0);
        int[] due = {3, 2, 1, 0, 0, 0, 0, 0, 1, 2, 3};
        for (int bikes = 0; bikes <= 10; bikes++) {
            BikeShare x = Check.city("balance 30;station 0 0 10 " + bikes + ";");
            Check.due(bikes + " bikes of 10, mark 3", x.imbalance(), due[bikes]);
        }
        Check.due("bikes and docks are added, a surplus does not help", Check.city("balance 30;station 0 0 10 0;"
                + "station 0 0 10 10;station 0 0 10 5;station 0 0 20 14;").imbalance(), 6);
        Check.due("the largest", Check.city("balance 50;" + "station 0 0 20 20;".repeat(8)).imbalance(), 80);
    }

    private static void nearest() {
        Document.says(12, "- `station`: a station - `dock`: true to look for a free dock, false to look for a bike");
        noSuchStation(12, "nearest dock", "Throws `IndexOutOfBoundsException` if there is no such station",
                (x, station) -> x.nearest(station, true));
        noSuchStation(12, "nearest bike", "Throws `IndexOutOfBoundsException` if there is no such station",
                (x, station) -> x.nearest(station, false));
        Document.says(12, "Returns the nearest other station with a free dock or with a bike; of several the lowest; NONE if"
                + " there is none.");
        BikeShare x = Check.city("station 50 50 4 2;station 55 50 4 4;station 54 50 4 0;station 50 45 4 2;station 50 56 4 2;");
        Check.due("a dock at distance 4", x.nearest(0, true), 2);
        Check.due("a bike: of two at distance 5 the lowest", x.nearest(0, false), 1);
        x.addBikes(2, 4);
        Check.due("the nearest is full: a dock at distance 5", x.nearest(0, true), 3);
        Check.due("the nearest has a bike", x.nearest(0, false), 2);
        x.removeBikes(2, 3);
        Check.due("one bike is enough", x.nearest(0, false), 2);
        x.removeBikes(2, 1);
        x.breakDock(2);
        x.breakDock(2);
        x.breakDock(2);
        Check.due("one free dock is enough", x.nearest(0, true), 2);
        x.breakDock(2);
        Check.due("all docks broken", x.nearest(0, true), 3);
        BikeShare two = Check.city("station 0 0 4 4;station 99 99 4 3;");
        Check.due("at the greatest distance", two.nearest(0, true), 1);
        Check.due("not itself", two.nearest(1, true), -1);
        Check.due("none with a dock", two.nearest(1, true), -1);
        two.removeBikes(0, 4);
        Check.due("none with a bike", two.nearest(1, false), -1);
        Check.due("alone", Check.city("station 0 0 4 2;").nearest(0, true), -1);
        Check.due("alone", Check.city("station 0 0 4 2;").nearest(0, false), -1);
        BikeShare same = Check.city(EIGHT);
        Check.due("all at one place", same.nearest(0, true), 1);
        Check.due("all at one place", same.nearest(7, false), 0);
        // Minutes are the same for both, the distance is not.
        BikeShare pace = Check.city("pace 1 1;station 0 0 4 2;station 9 0 4 2;station 3 0 4 2;");
        Check.due("by distance", pace.nearest(0, true), 2);
    }
}
