/** TRUCKS of the Description at its limits, and promises 21 to 23, 29 and 30. */
final class TruckBounds {
    private TruckBounds() {
    }

    static void look() {
        capacity();
        queue();
        putsBikes();
        takesBikes();
        truck();
        tourOfNone();
        tourOfDifferentStations();
        tourWays();
        tourLoads();
        tourUnvisited();
        tourTies();
        tourAnswers();
        tourStop();
        tourRefused();
        dispatch();
        dispatchTargets();
        dispatchRefused();
        cancel();
    }

    private static int[] truck(BikeShare x, int truck) {
        int[] all = new int[6];
        for (int what = 0; what < 6; what++) {
            all[what] = x.truck(truck, what);
        }
        return all;
    }

    /** Only the numbers of trucks are trucks: in cities of none, of one and of the most. */
    private static void noSuchTruck(int promise, String what, String sentence, StationBounds.Asked asked) {
        Document.says(promise, sentence);
        String stations = "station 0 0 4 2;".repeat(4);
        for (int count = 0; count <= 3; count++) {
            BikeShare x = Check.city(stations + "truck 0 1;".repeat(count));
            for (int truck : new int[] {-1, count, 3, 4, Integer.MAX_VALUE, Integer.MIN_VALUE}) {
                Check.noStation(x, what + " of truck " + truck + " of " + count, () -> asked.of(x, truck));
            }
            for (int truck = 0; truck < count; truck++) {
                asked.of(x, truck);
            }
        }
    }

    // ---- TRUCKS

    private static void capacity() {
        Document.says(0, "TRUCKS. A truck is parked at a station or drives to one; it carries at most its capacity of bikes, and none at"
                + " first.");
        for (int capacity : new int[] {1, 2, 19, 20}) {
            BikeShare x = Check.city("station 0 0 20 20;station 5 0 9 0;truck 0 " + capacity + ";");
            Check.due("none at first", x.truck(0, 3), 0);
            x.dispatch(0, 0, 20 - capacity + 1);
            Check.due("one less than it can carry", x.truck(0, 3), capacity - 1);
            x.dispatch(0, 0, 20 - capacity);
            Check.due("as many as it can carry", x.truck(0, 3), capacity);
            x.dispatch(0, 0, Math.max(0, 20 - capacity - 1));
            Check.due("not one more", x.truck(0, 3), capacity);
            Check.due("the rest stays", x.bikes(0), 20 - capacity);
        }
        BikeShare x = Check.city("station 0 0 20 20;station 5 0 9 0;truck 0 1;");
        Check.due("parked", truck(x, 0), 0, -1, -1, 0, 1, 0);
        x.dispatch(0, 1, 0);
        Check.due("drives", truck(x, 0), -1, 1, 3, 0, 1, 0);
    }

    private static void queue() {
        Document.says(0, "It has a queue of orders, each with a station and a target. As long as a parked truck has orders in its queue,"
                + " the first one is removed from it: if its station is the one where the truck is parked, it is carried out at"
                + " once, otherwise the truck drives off to it, arrives after the minutes for that way, and carries it out then.");
        BikeShare x = Check.city("pace 0 10;station 0 0 20 10;station 3 0 20 0;station 9 0 20 0;truck 0 20;");
        Check.due("at once", x.dispatch(0, 0, 4), 0);
        Check.due("six bikes", truck(x, 0), 0, -1, -1, 6, 20, 0);
        Check.due("drives off", x.dispatch(0, 1, 1), 0);
        Check.due("waits", x.dispatch(0, 1, 3), 1);
        Check.due("waits", x.dispatch(0, 1, 2), 2);
        Check.due("waits", x.dispatch(0, 2, 1), 3);
        Check.due("waits, also for the place that it left", x.dispatch(0, 0, 0), 4);
        x.pass(3);
        Check.due("a minute before", truck(x, 0), -1, 1, 4, 6, 20, 4);
        Check.due("nothing is carried out", x.bikes(1), 0);
        x.pass(1);
        Check.due("three are carried out, then it drives on in the same minute", truck(x, 0), -1, 2, 11, 4, 20, 1);
        Check.due("1, then 3, then 2", x.bikes(1), 2);
        x.pass(7);
        Check.due("on to the last", truck(x, 0), -1, 0, 21, 3, 20, 0);
        x.pass(10);
        Check.due("parked, the queue is empty", truck(x, 0), 0, -1, -1, 7, 20, 0);
        BikeShare fast = Check.city("pace 0 0;station 0 0 20 10;station 3 0 20 0;truck 0 20;");
        for (int i = 0; i < 7; i++) {
            fast.dispatch(0, 1 - i % 2, 5);
        }
        for (int i = 1; i <= 6; i++) {
            fast.pass(1);
            Check.due("a way each minute", truck(fast, 0), -1, 1 - i % 2, i + 1, fast.total(5), 20, 6 - i);
        }
        fast.pass(1);
        Check.due("parked after seven", fast.truck(0, 0), 1);
        BikeShare full = Check.city("pace 0 0;station 0 0 20 20;station 3 0 20 0;truck 0 20;");
        full.dispatch(0, 1, 0);
        int[][] orders = {{0, 13}, {1, 2}, {0, 17}, {1, 5}, {0, 9}, {1, 20}};
        for (int[] order : orders) {
            full.dispatch(0, order[0], order[1]);
        }
        int[][] bikes = {{20, 0}, {13, 0}, {13, 2}, {17, 2}, {17, 3}, {9, 3}, {9, 11}};
        for (int i = 0; i < 7; i++) {
            full.pass(1);
            Check.due("a full queue keeps its order, at 0 after " + i, full.bikes(0), bikes[i][0]);
            Check.due("a full queue keeps its order, at 1 after " + i, full.bikes(1), bikes[i][1]);
        }
    }

    private static void putsBikes() {
        Document.says(0, "To carry it out: if the station has fewer bikes than the target, the truck puts bikes into free docks until"
                + " there are as many as the target, or it has no more, or there is no free dock;");
        // The bikes of the truck, the target, and the bikes that are put at a station of six docks.
        int[][] due = {{5, 1, 1}, {5, 4, 4}, {5, 5, 5}, {5, 6, 5}, {5, 20, 5}, {6, 6, 6}, {8, 6, 6}, {8, 7, 6}, {8, 20, 6}, {8, 0, 0}};
        for (int[] row : due) {
            BikeShare x = Check.city("pace 0 0;station 0 0 20 " + row[0] + ";station 0 0 6 0;truck 0 20;");
            x.dispatch(0, 0, 0);
            x.dispatch(0, 1, row[1]);
            x.pass(1);
            Check.due("target " + row[1] + " with " + row[0], x.bikes(1), row[2]);
            Check.due("left on the truck", x.truck(0, 3), row[0] - row[2]);
        }
        BikeShare docks = Check.city("pace 0 0;station 0 0 20 5;station 0 0 2 0;truck 0 20;");
        docks.dispatch(0, 0, 0);
        docks.breakDock(1);
        docks.dispatch(0, 1, 2);
        docks.pass(1);
        Check.due("the other dock is broken", docks.bikes(1), 1);
        Check.due("four are left", docks.truck(0, 3), 4);
        docks.dispatch(0, 1, 20);
        Check.due("no free dock", docks.truck(0, 3), 4);
        BikeShare empty = Check.city("station 0 0 20 5;truck 0 20;");
        empty.dispatch(0, 0, 20);
        Check.due("an empty truck puts none", empty.bikes(0), 5);
        empty.dispatch(0, 0, 5);
        Check.due("as many as the target", empty.bikes(0), 5);
    }

    private static void takesBikes() {
        Document.says(0, "if the station has more, the truck takes bikes until there are as many as the target, or it is full.");
        int[][] due = {{10, 0}, {9, 1}, {8, 2}, {7, 3}, {6, 3}, {0, 3}, {11, 0}};
        for (int[] row : due) {
            BikeShare x = Check.city("station 0 0 20 10;truck 0 3;");
            x.dispatch(0, 0, row[0]);
            Check.due("taken for target " + row[0], x.truck(0, 3), row[1]);
            Check.due("left for target " + row[0], x.bikes(0), 10 - row[1]);
            Check.due("on trucks", x.total(5), row[1]);
        }
        BikeShare x = Check.city("station 0 0 20 2;truck 0 3;");
        x.dispatch(0, 0, 0);
        Check.due("all that are there", x.truck(0, 3), 2);
        x.addBikes(0, 2);
        x.dispatch(0, 0, 0);
        Check.due("one more makes it full", x.truck(0, 3), 3);
        x.dispatch(0, 0, 0);
        Check.due("a full one takes none", x.bikes(0), 1);
        x.dispatch(0, 0, 1);
        Check.due("as many as the target", x.bikes(0), 1);
    }

    // ---- promise 21

    private static void truck() {
        Document.says(21, "Returns a property of a truck. - `truck`: a truck - `what`: 0: the station where it is parked, NONE if it drives;"
                + " 1: the station to which it drives, NONE if it is parked; 2: the time of its arrival there, NONE if it is"
                + " parked; 3: the number of bikes that it carries; 4: its capacity; 5: the number of orders in its queue Returns"
                + " the property.");
        BikeShare x = Check.city("pace 0 99;station 0 0 4 4;station 99 99 4 0;truck 0 3;truck 1 20;truck 0 1;");
        Check.due("0, parked", truck(x, 0), 0, -1, -1, 0, 3, 0);
        Check.due("1, parked", truck(x, 1), 1, -1, -1, 0, 20, 0);
        Check.due("2, parked", truck(x, 2), 0, -1, -1, 0, 1, 0);
        x.pass(5);
        x.dispatch(0, 0, 1);
        for (int i = 0; i < 7; i++) {
            x.dispatch(0, 1, 4);
        }
        Check.due("0, drives with a full queue", truck(x, 0), -1, 1, 1966, 3, 3, 6);
        x.pass(1440);
        x.pass(520);
        Check.due("a minute before its arrival", truck(x, 0), -1, 1, 1966, 3, 3, 6);
        x.pass(1);
        Check.due("0, parked, all carried out", truck(x, 0), 1, -1, -1, 0, 3, 0);
        String index = "Throws `IndexOutOfBoundsException` if there is no such truck (checked first)";
        noSuchTruck(21, "truck", index, (y, truck) -> y.truck(truck, 0));
        noSuchTruckOnly(x, -1);
        noSuchTruckOnly(x, 6);
        Document.says(21, "Throws `IllegalArgumentException` if what is out of range");
        for (int what : new int[] {-1, 6, Integer.MAX_VALUE, Integer.MIN_VALUE}) {
            Check.badArgument(x, "truck 2, " + what, () -> x.truck(2, what));
        }
    }

    private static void noSuchTruckOnly(BikeShare x, int what) {
        for (int truck : new int[] {-1, 3}) {
            Check.noStation(x, "truck " + truck + ", " + what, () -> x.truck(truck, what));
        }
    }

    // ---- promises 22 and 23

    private static void tour(String what, String text, int minutes, int... stops) {
        tour(what, Check.city(text), minutes, stops);
    }

    private static void tour(String what, BikeShare x, int minutes, int... stops) {
        Check.due(what, x.tourMinutes(0), minutes);
        Check.due(what, Check.tour(x, 0), stops);
    }

    private static void tourOfNone() {
        Document.says(22, "Returns the minutes of the best tour of a parked truck.");
        Document.says(22, "A tour is a sequence of different stations (possibly none) that the truck visits one after the other while no"
                + " time passes for anything else.");
        tour("no stop is needed", "station 0 0 10 2;station 9 0 10 8;truck 0 5;", 0);
        tour("one bike less", "station 0 0 10 1;station 9 0 10 8;truck 0 5;", 10, 1, 0);
        tour("no mark at all", "balance 0;station 0 0 10 0;station 9 0 10 10;truck 0 5;", 0);
        BikeShare x = Check.city("pace 0 99;station 0 0 10 1;station 9 0 10 8;truck 0 5;trip 1 0 1;");
        x.rent(1, 0);
        tour("riders on the way do not arrive", x, 90 + 90, 1, 0);
        Check.due("no time passed", x.time(), 0);
        Check.due("nothing was moved", x.bikes(1), 7);
        Check.due("no change was made", x.undo(), 0);
    }

    private static void tourOfDifferentStations() {
        String city = "pace 0 10;balance 50;station 0 0 4 4;station 1 0 4 0;";
        tour("one bike at a time would need a second visit", city + "truck 0 1;", -1);
        tour("two at a time do not", city + "truck 0 2;", 2, 0, 1);
        StringBuilder line = new StringBuilder("pace 0 10;balance 50;");
        for (int i = 0; i < 8; i++) {
            line.append("station ").append(i).append(" 0 2 ").append(i % 2 == 0 ? 2 : 0).append(';');
        }
        tour("all eight", line + "truck 0 1;", 14, 0, 1, 2, 3, 4, 5, 6, 7);
    }

    private static void tourWays() {
        Document.says(22, "The way to the first stop takes 0 minutes if the truck is parked there.");
        String one = "pace 0 10;station 0 0 10 10;";
        tour("parked there", one + "truck 0 5;", 0, 0);
        tour("parked at the same place, but at another station", one + "station 0 0 10 5;truck 1 5;", 1, 0);
        tour("one way", one + "station 1 0 10 5;truck 1 5;", 2, 0);
        tour("the first stop is free, the way back is not", "pace 0 10;station 0 0 10 5;station 9 0 10 10;"
                + "station 18 0 10 0;truck 0 2;", 20, 1, 2);
        tour("only the first way is free", "pace 0 10;station 0 0 10 0;station 9 0 10 10;truck 0 5;", 20, 1, 0);
        tour("the sum of all ways", "pace 0 99;station 0 0 10 10;station 99 99 10 0;truck 1 5;", 1961 + 1961, 0, 1);
    }

    private static void tourLoads() {
        Document.says(22, "At each stop the truck takes bikes, or puts bikes into docks, or does neither, so that the station is balanced"
                + " then; it always carries between 0 bikes and its capacity.");
        for (int capacity = 1; capacity <= 6; capacity++) {
            String city = "pace 0 0;balance 50;station 0 0 10 10;station 0 0 10 0;truck 0 " + capacity + ";";
            if (capacity < 5) {
                tour("five do not fit", city, -1);
            } else {
                tour("five fit", city, 1, 0, 1);
            }
        }
        tour("nothing to put at first", "pace 0 0;station 0 0 10 1;truck 0 9;", -1);
        BikeShare loaded = Check.city("pace 0 0;station 0 0 10 3;truck 0 9;");
        loaded.dispatch(0, 0, 2);
        loaded.removeBikes(0, 1);
        tour("one to put", loaded, 0, 0);
        loaded.removeBikes(0, 1);
        tour("two are too many", loaded, -1);
        BikeShare full = Check.city("pace 0 0;station 0 0 10 8;truck 0 2;");
        full.dispatch(0, 0, 6);
        full.addBikes(0, 2);
        tour("8 of 10 is balanced", full, 0);
        full.addBikes(0, 1);
        tour("a full truck takes none", full, -1);
        BikeShare nearlyFull = Check.city("pace 0 0;station 0 0 10 8;truck 0 2;");
        nearlyFull.dispatch(0, 0, 7);
        nearlyFull.addBikes(0, 2);
        tour("there is place for one", nearlyFull, 0, 0);
        nearlyFull.addBikes(0, 1);
        tour("not for two", nearlyFull, -1);
        // The first stop must take three bikes so that the second one gets them, not only one.
        tour("more than is needed here", "pace 0 10;balance 30;station 0 0 10 8;station 5 0 10 0;truck 0 3;", 6, 0, 1);
        tour("not more than leaves it balanced", "pace 0 10;balance 30;station 0 0 10 5;station 5 0 10 0;truck 0 3;", -1);
        tour("only in one order do they all fit", "pace 0 0;balance 20;station 7 9 8 8;station 4 2 12 0;station 4 4 4 4;station 9 5 11 11;"
                + "station 9 8 8 8;truck 0 2;", 3, 0, 4, 1, 3);
        BikeShare broken = Check.city("pace 0 10;balance 50;station 0 0 4 2;station 5 0 4 1;truck 0 3;");
        tour("none to give", broken, -1);
        broken.breakDock(1);
        tour("the mark of 3 working docks is 1", broken, 0);
    }

    private static void tourUnvisited() {
        Document.says(22, "All stations that are not visited must be balanced as they are.");
        tour("the balanced ones are left out", "pace 0 10;station 0 0 10 2;station 1 0 10 8;station 2 0 10 10;truck 0 9;", 3, 2);
        tour("both others are needed", "pace 0 10;station 0 0 10 5;station 1 0 10 10;station 2 0 10 10;truck 0 9;", 4, 1, 2);
        tour("one cannot be", "pace 0 10;station 0 0 10 5;station 1 0 10 10;station 2 0 10 10;truck 0 1;", -1);
        tour("the place where it is parked counts too", "pace 0 10;station 0 0 10 10;station 1 0 10 10;truck 0 9;", 2, 0, 1);
    }

    private static void tourTies() {
        Document.says(22, "The best tour has the fewest minutes; of several it is one with the fewest stops; of several the one whose"
                + " sequence of stations is lexicographically first.");
        tour("fewest minutes, though the sequence is later", "pace 0 10;station 0 0 10 5;station 9 0 10 10;station 3 0 10 10;"
                + "truck 0 9;", 4 + 7, 2, 1);
        // A detour by a helper costs as much as the way, as both quotients are rounded down.
        String detour = "pace 0 5;station 1 0 10 5;station 0 0 10 5;station 2 0 10 1;truck 1 9;";
        BikeShare loaded = Check.city(detour);
        loaded.dispatch(0, 1, 4);
        tour("fewest stops", loaded, 2, 2);
        tour("a bike is needed: of two helpers the lowest", detour, 2, 0, 2);
        tour("fewest minutes before fewest stops", "pace 0 10;station 0 0 10 2;station 1 0 10 3;station 2 0 10 3;station 3 0 10 0;"
                + "station 99 0 10 8;truck 0 9;", 6, 1, 2, 3);
        tour("lexicographically first", "pace 0 10;station 5 0 10 5;station 0 0 10 10;station 10 0 10 10;truck 0 9;", 17, 1, 2);
        tour("the lowest of helpers that are as near", "pace 0 0;station 0 0 10 2;station 9 9 10 3;station 0 0 10 3;station 5 5 10 1;"
                + "truck 0 9;", 2, 1, 3);
        tour("in any order as good: the first", "pace 0 0;" + "station 0 0 10 10;".repeat(8) + "truck 7 20;", 7,
                7, 0, 1, 2, 3, 4, 5, 6);
    }

    private static void tourAnswers() {
        Document.says(22, "- `truck`: a truck Returns the sum of the minutes of all ways; NONE if there is no tour.");
        tour("no tour", "station 0 0 10 0;truck 0 9;", -1);
        tour("0 minutes are a tour", "station 0 0 10 9;truck 0 9;", 0, 0);
        tour("eight stations, no tour", "station 0 0 10 1;".repeat(8) + "truck 0 20;", -1);
        BikeShare x = Check.city("station 0 0 10 9;station 4 0 10 5;truck 1 9;truck 0 9;truck 1 1;");
        Check.due("truck 0", x.tourMinutes(0), 3);
        Check.due("truck 1", x.tourMinutes(1), 0);
        Check.due("truck 2", x.tourMinutes(2), 3);
        x.removeBikes(0, 9);
        x.removeBikes(1, 4);
        Check.due("no tour any more", x.tourMinutes(1), -1);
        x.addBikes(1, 9);
        Check.due("a tour again", x.tourMinutes(1), 6);
        Check.due("for a small truck there is none", x.tourMinutes(2), -1);
    }

    private static void tourStop() {
        Document.says(23, "Returns a stop of the best tour (see tourMinutes). - `truck`: a truck - `stop`: index of the stop, from 0"
                + " Returns the station; NONE if there is no tour, or it has no such stop.");
        String eight = "pace 0 0;" + "station 0 0 10 10;".repeat(8) + "truck 7 20;";
        BikeShare[] cities = {Check.city(eight), Check.city("station 0 0 10 9;truck 0 9;"), Check.city("station 0 0 10 5;truck 0 9;"),
            Check.city("station 0 0 10 0;truck 0 9;")};
        int[][] stops = {{7, 0, 1, 2, 3, 4, 5, 6}, {0}, {}, {}};
        for (int i = 0; i < cities.length; i++) {
            for (int stop = 0; stop < stops[i].length; stop++) {
                Check.due("stop " + stop, cities[i].tourStop(0, stop), stops[i][stop]);
            }
            for (int stop : new int[] {-1, stops[i].length, 8, 9, Integer.MAX_VALUE, Integer.MIN_VALUE}) {
                Check.due("no stop " + stop, cities[i].tourStop(0, stop), -1);
            }
        }
    }

    private static void tourRefused() {
        String index = "Throws `IndexOutOfBoundsException` if there is no such truck (checked first)";
        noSuchTruck(22, "tourMinutes", index, BikeShare::tourMinutes);
        noSuchTruck(23, "tourStop", index, (x, truck) -> x.tourStop(truck, 0));
        noSuchTruck(23, "tourStop -1", index, (x, truck) -> x.tourStop(truck, -1));
        Document.says(22, "Throws `IllegalStateException` if the truck drives");
        Document.says(23, "Throws `IllegalStateException` if the truck drives");
        BikeShare x = Check.city("station 0 0 10 5;station 4 0 10 5;truck 0 9;truck 0 9;");
        x.dispatch(0, 1, 5);
        for (int minute = 0; minute < 3; minute++) {
            Check.badState(x, "tourMinutes as it drives", () -> x.tourMinutes(0));
            for (int stop : new int[] {0, -1, 8}) {
                Check.badState(x, "tourStop as it drives", () -> x.tourStop(0, stop));
            }
            Check.due("the other is parked", x.tourMinutes(1), 0);
            x.pass(1);
        }
        Check.due("parked", x.tourMinutes(0), 0);
        Check.due("parked", x.tourStop(0, 0), -1);
    }

    // ---- promises 29 and 30

    private static void dispatch() {
        Document.says(29, "Appends an order to the queue of a truck. A parked truck goes on at once, as described.");
        Document.says(29, "Returns the number of orders in the queue then.");
        BikeShare x = Check.city("station 0 0 20 9;station 5 0 20 0;truck 0 20;truck 1 20;");
        Check.due("carried out at once", x.dispatch(0, 0, 0), 0);
        Check.due("it has them", x.truck(0, 3), 9);
        Check.due("drives off at once", x.dispatch(0, 1, 2), 0);
        for (int i = 1; i <= 6; i++) {
            Check.due("in the queue", x.dispatch(0, i % 2, 2), i);
        }
        Check.due("the other has its own queue", x.dispatch(1, 0, 2), 0);
        Check.due("the other has its own queue", x.dispatch(1, 0, 2), 1);
    }

    private static void dispatchTargets() {
        Document.says(29, "- `truck`: a truck - `station`: a station - `target`: 0 to 20");
        Document.says(29, "Throws `IllegalArgumentException` if target is out of range (checked second)");
        BikeShare x = Check.city("station 0 0 20 20;station 5 0 20 0;truck 0 20;");
        for (int target : new int[] {-1, 21, Integer.MAX_VALUE, Integer.MIN_VALUE}) {
            Check.badArgument(x, "target " + target, () -> x.dispatch(0, 0, target));
            Check.badArgument(x, "target " + target, () -> x.dispatch(0, 1, target));
        }
        Check.due("target 0", x.dispatch(0, 0, 0), 0);
        Check.due("all taken", x.bikes(0), 0);
        Check.due("target 20", x.dispatch(0, 0, 20), 0);
        Check.due("all put", x.bikes(0), 20);
        Check.due("to the last station", x.dispatch(0, 1, 20), 0);
    }

    private static void dispatchRefused() {
        String index = "Throws `IndexOutOfBoundsException` if there is no such truck or station (checked first)";
        noSuchTruck(29, "dispatch", index, (x, truck) -> x.dispatch(truck, 0, 0));
        BikeShare x = Check.city("station 0 0 20 9;station 5 0 20 0;truck 0 20;");
        for (int queued = -1; queued < 6; queued++) {
            x.dispatch(0, 1, 3);
        }
        Document.says(29, "Throws `IllegalStateException` if there are 6 orders in the queue");
        Check.due("six", x.truck(0, 5), 6);
        Check.badState(x, "a seventh", () -> x.dispatch(0, 1, 3));
        Check.badState(x, "a seventh", () -> x.dispatch(0, 0, 0));
        for (int wrong : new int[] {-1, 2, 8, Integer.MAX_VALUE, Integer.MIN_VALUE}) {
            Check.noStation(x, "station " + wrong + " before the queue", () -> x.dispatch(0, wrong, 3));
            Check.noStation(x, "station " + wrong + " before the target", () -> x.dispatch(0, wrong, 21));
        }
        for (int wrong : new int[] {-1, 1, 3, Integer.MAX_VALUE, Integer.MIN_VALUE}) {
            Check.noStation(x, "truck " + wrong + " before the queue", () -> x.dispatch(wrong, 0, 3));
            Check.noStation(x, "truck " + wrong + " before the target", () -> x.dispatch(wrong, 0, -1));
            Check.noStation(x, "truck " + wrong + " and a wrong station", () -> x.dispatch(wrong, wrong, -1));
        }
        Check.badArgument(x, "the target before the queue", () -> x.dispatch(0, 0, 21));
        Check.badArgument(x, "the target before the queue", () -> x.dispatch(0, 0, -1));
        x.pass(4);
        Check.due("all orders at 1 are carried out", x.truck(0, 5), 0);
        BikeShare y = Check.city("pace 0 0;station 0 0 20 9;station 5 0 20 0;truck 0 20;");
        for (int i = 0; i < 7; i++) {
            y.dispatch(0, 1 - i % 2, 3);
        }
        y.pass(1);
        Check.due("one has left the queue: there is place for one", y.dispatch(0, 1, 3), 6);
        Check.badState(y, "and no more", () -> y.dispatch(0, 1, 3));
    }

    private static void cancel() {
        Document.says(30, "Removes all orders from the queue of a truck; a truck that drives goes on driving and carries out the order for"
                + " which it drives. It is a change also if there are no orders.");
        Document.says(30, "- `truck`: a truck Returns the number of orders that were removed.");
        noSuchTruck(30, "cancel", "Throws `IndexOutOfBoundsException` if there is no such truck", BikeShare::cancel);
        BikeShare x = Check.city("station 0 0 20 9;station 5 0 20 8;truck 0 20;truck 0 20;");
        Check.due("a parked one has none", x.cancel(0), 0);
        Check.due("a change all the same", x.undo(), 0);
        x.dispatch(0, 1, 2);
        Check.due("a driving one with none", x.cancel(0), 0);
        Check.due("a change all the same", x.undo(), 1);
        for (int i = 0; i < 6; i++) {
            x.dispatch(0, i % 2, 0);
        }
        x.dispatch(1, 1, 0);
        x.dispatch(1, 0, 0);
        Check.due("all six", x.cancel(0), 6);
        Check.due("goes on driving", truck(x, 0), -1, 1, 3, 0, 20, 0);
        Check.due("the other keeps its order", x.truck(1, 5), 1);
        Check.due("none is left", x.cancel(0), 0);
        x.pass(3);
        Check.due("carries out the one for which it drives", truck(x, 0), 1, -1, -1, 6, 20, 0);
        x.pass(100);
        Check.due("and no other", x.truck(0, 0), 1);
    }
}
