/** RIDES of the Description at its limits, and promises 13 to 20. */
final class RideBounds {
    // The largest int, from numbers of at most four digits.
    private static final String MAX = "(9999*9999*21+9999*4790+8416)";
    private static final String NO_STATION = "Throws `IndexOutOfBoundsException` if there is no such station";

    private RideBounds() {
    }

    static void look() {
        begins();
        fareLimits();
        names();
        hours();
        overflow();
        divisions();
        leftToRight();
        arrives();
        bonusLimits();
        turnedAway();
        turnedAwayThen();
        noOtherStation();
        rideMinutes();
        quote();
        bonusAt();
        bestDeal();
        riders();
        riderOrder();
        rider();
        ridesBetween();
        busiestPair();
    }

    private static int fare(String sum) {
        return Check.city("fare " + sum + ";station 0 0 9 4;station 3 2 5 2;").quote(0, 1);
    }

    // ---- RIDES

    private static void begins() {
        Document.says(0, "RIDES. A ride from one station to another (or the same) can begin if there is a bike at the first one,"
                + " which then leaves its dock.");
        BikeShare x = Check.city("station 0 0 2 2;station 5 0 2 0;");
        Check.due("to another", x.rent(0, 1), 6);
        Check.due("it left its dock", x.freeDocks(0), 1);
        Check.due("to the same, the last bike", x.rent(0, 0), 1);
        Check.due("both left", x.freeDocks(0), 2);
        Check.badState(x, "no bike", () -> x.rent(0, 1));
        Check.badState(x, "no bike to the same", () -> x.rent(0, 0));
        BikeShare y = Check.city("station 0 0 2 1;station 5 0 2 2;");
        Check.due("to a full station", y.rent(0, 1), 6);
    }

    private static void fareLimits() {
        Document.says(0, "The rider pays the fare: the value of the sum, but at least 0 and at most 9999.");
        String[] sums = {"0-9999*9999", "0-1", "1-1", "1", "9998", "9999", "9999+1", "9999*9999"};
        int[] due = {0, 0, 0, 1, 9998, 9999, 9999, 9999};
        for (int i = 0; i < sums.length; i++) {
            BikeShare x = Check.city("fare " + sums[i] + ";station 0 0 9 4;trip 0 0 1;");
            Check.due("quote of " + sums[i], x.quote(0, 0), due[i]);
            Check.due("forecast of " + sums[i], x.forecast(1, 0), due[i]);
            x.rent(0, 0);
            Check.due("paid " + sums[i], x.total(0), due[i]);
            x.pass(1);
            Check.due("paid by a trip too " + sums[i], x.total(0), 2 * due[i]);
        }
        Check.due("only the whole sum is limited below", fare("1-2+5"), 4);
        Check.due("only the whole sum is limited above", fare("9999+1-9000"), 1000);
    }

    private static void names() {
        Document.says(0, "In the sum, minutes is the number of minutes of the ride; bikes is the number of bikes at the first"
                + " station just before; docks is the number of free docks at the second station just before;");
        String city = "station 0 0 9 1;station 3 2 5 5;station 9 9 20 20;";
        BikeShare x = Check.city("fare bikes;" + city);
        Check.due("the last bike counts", x.quote(0, 1), 1);
        x.rent(0, 1);
        Check.due("it was there just before", x.total(0), 1);
        Check.due("no bike", x.quote(0, 1), 0);
        Check.due("20 bikes", x.quote(2, 0), 20);
        BikeShare y = Check.city("fare docks;" + city);
        Check.due("no dock at a full station", y.quote(0, 1), 0);
        Check.due("to the same full station", y.quote(1, 1), 0);
        y.rent(1, 1);
        Check.due("as it was just before the bike left", y.total(0), 0);
        Check.due("now there is one", y.quote(0, 1), 1);
        y.breakDock(1);
        Check.due("a broken one is not free", y.quote(0, 1), 0);
        BikeShare z = Check.city("fare minutes;pace 99 0;station 0 0 9 4;station 99 99 5 2;");
        Check.due("to the same", z.quote(0, 0), 1);
        Check.due("the longest", z.quote(0, 1), 1961);
    }

    private static void hours() {
        Document.says(0, "hour is the time divided by 60, rounded down, modulo 24.");
        int[][] due = {{0, 0}, {59, 0}, {60, 1}, {119, 1}, {120, 2}, {1379, 22}, {1380, 23}, {1439, 23}, {1440, 0}, {1499, 0},
            {1500, 1}, {2879, 23}, {2880, 0}, {8640, 0}, {9999, 22}};
        BikeShare x = Check.city("fare hour;station 0 0 9 4;");
        for (int[] row : due) {
            while (x.time() < row[0]) {
                x.pass(Math.min(1440, row[0] - x.time()));
            }
            Check.due("time " + row[0], x.quote(0, 0), row[1]);
        }
        BikeShare trip = Check.city("fare hour*100+minutes;station 0 0 9 4;trip 0 0 1439;trip 0 0 0;trip 0 0 59;trip 0 0 60;");
        int[][] paid = {{59, 1}, {1, 101}, {1379, 2301}, {1, 1}};
        int before = 0;
        for (int[] row : paid) {
            trip.pass(row[0]);
            Check.due("a trip at " + trip.time(), trip.total(0) - before, row[1]);
            before = trip.total(0);
        }
    }

    private static void overflow() {
        Document.says(0, "Arithmetic is that of int with overflow;");
        Check.due("the largest", fare(MAX), 9999);
        Check.due("the largest in parts", fare(MAX + "/9999/100"), 2147);
        Check.due("+ beyond the largest", fare(MAX + "+1"), 0);
        Check.due("+ beyond the largest in parts", fare("(" + MAX + "+1)/9999/100+3000"), 853);
        Check.due("- to the smallest", fare("(0-" + MAX + "-1)/9999/100+3000"), 853);
        Check.due("- beyond the smallest", fare("(0-" + MAX + "-2)/9999/100"), 2147);
        Check.due("* beyond the largest", fare(MAX + "*2"), 0);
        Check.due("* beyond the largest, + 5", fare(MAX + "*2+5"), 3);
        Check.due("* far beyond", fare("9999*9999*9999/9999/100+3000"), 9999 * 9999 * 9999 / 9999 / 100 + 3000);
        Check.due("the smallest by -1", fare("(0-" + MAX + "-1)/(0-1)"), 0);
        Check.due("the smallest by -1 in parts", fare("(0-" + MAX + "-1)/(0-1)/9999/100+3000"), 853);
        Check.due("the smallest times -1 in parts", fare("(0-" + MAX + "-1)*(0-1)/9999/100+3000"), 853);
    }

    private static void divisions() {
        Document.says(0, "division truncates toward 0, and a division by 0 gives 0.");
        Check.due("7 / 2", fare("7/2"), 3);
        Check.due("-7 / 2", fare("10+(0-7)/2"), 7);
        Check.due("7 / -2", fare("10+7/(0-2)"), 7);
        Check.due("-7 / -2", fare("(0-7)/(0-2)"), 3);
        Check.due("1 / 2", fare("5+1/2"), 5);
        Check.due("-1 / 2", fare("5+(0-1)/2"), 5);
        Check.due("8 / 8", fare("8/8"), 1);
        Check.due("9999 / 1", fare("9999/1"), 9999);
        Check.due("1 / 0", fare("5+1/0"), 5);
        Check.due("0 / 0", fare("5+0/0"), 5);
        Check.due("-1 / 0", fare("5+(0-1)/0"), 5);
        Check.due("by a difference that is 0", fare("5+9/(3-3)"), 5);
        Check.due("by the hour 0", fare("6+9/hour"), 6);
        Check.due("the largest / 0", fare("4+" + MAX + "/0"), 4);
        Check.due("by what a division by 0 gave", fare("4+7/(7/0)"), 4);
        Check.due("in front of *", fare("4+7/0*3"), 4);
        BikeShare x = Check.city("fare 8/bikes+9/docks;station 0 0 4 4;station 1 0 4 4;");
        Check.due("no docks", x.quote(0, 1), 2);
        x.removeBikes(0, 4);
        Check.due("no bikes, no docks", x.quote(0, 1), 0);
    }

    private static void leftToRight() {
        Document.says(0, "Operators of the same rank are applied from left to right.");
        Check.due("- -", fare("10-3-2"), 5);
        Check.due("- +", fare("10-3+2"), 9);
        Check.due("+ - +", fare("1+10-3+2"), 10);
        Check.due("/ /", fare("100/5/2"), 10);
        Check.due("/ *", fare("7/2*2"), 6);
        Check.due("* /", fare("7*2/4"), 3);
        Check.due("/ * /", fare("100/8*8/7"), 13);
        Check.due("* before +, on both sides", fare("2*3+4*5"), 26);
        Check.due("* before -, on both sides", fare("9*3-4*5"), 7);
        Check.due("in parentheses", fare("(10-3-2)*(10-3-2)"), 25);
        Check.due("parentheses against the order", fare("10-(3-2)"), 9);
        Check.due("deepest", fare("1-(2-(3-(4-(5-(6-7)-8)-9)-10)-11)+100"),
                1 - (2 - (3 - (4 - (5 - (6 - 7) - 8) - 9) - 10) - 11) + 100);
    }

    private static void arrives() {
        Document.says(0, "When the rider arrives and there is a free dock, the bike is put into it and the ride ends;");
        BikeShare x = Check.city("station 0 0 9 2;station 5 0 3 2;");
        x.rent(0, 1);
        x.rent(0, 1);
        Check.due("a minute before", x.pass(5), 0);
        Check.due("the last free dock is for one of them", x.pass(1), 1);
        Check.due("it is full", x.freeDocks(1), 0);
        Check.due("one was turned away", x.total(4), 1);
        Check.due("and is on the way", x.riders(), 1);
    }

    private static void bonusLimits() {
        Document.says(0, "the rider gets the cents of bonus if just before the bikes of the station, times 100, were less than the"
                + " percent of bonus times its working docks.");
        int[][] due = {{50, 4, 2, 0}, {51, 4, 2, 7}, {49, 4, 2, 0}, {50, 4, 1, 7}, {25, 4, 1, 0}, {26, 4, 1, 7}, {100, 4, 3, 7},
            {99, 20, 19, 7}, {95, 20, 19, 0}, {96, 20, 19, 7}, {1, 20, 0, 7}, {1, 20, 1, 0}, {0, 20, 0, 0}, {5, 20, 1, 0},
            {6, 20, 1, 7}, {1, 1, 0, 7}, {67, 3, 2, 7}, {66, 3, 2, 0}};
        for (int[] row : due) {
            String what = row[0] + " percent, " + row[2] + " of " + row[1];
            BikeShare x = Check.city("bonus " + row[0] + " 7;station 0 0 1 1;station 0 0 " + row[1] + " " + row[2] + ";");
            Check.due(what, x.bonusAt(1), row[3]);
            x.rent(0, 1);
            Check.due(what + " is not paid before", x.total(1), 0);
            x.pass(1);
            Check.due(what + " is paid", x.total(1), row[3]);
        }
        BikeShare x = Check.city("bonus 50 7;station 0 0 4 4;station 0 0 4 0;");
        x.rent(0, 1);
        x.rent(0, 1);
        x.rent(0, 1);
        x.breakDock(1);
        x.pass(1);
        Check.due("0 and 1 of 3 working docks are less than half, 2 are not", x.total(1), 14);
        BikeShare turned = Check.city("bonus 100 7;station 0 0 4 4;station 5 0 1 1;station 9 0 4 3;");
        turned.rent(0, 1);
        turned.pass(6);
        Check.due("no bonus where there is no dock", turned.total(1), 0);
        turned.pass(5);
        Check.due("but where the ride ends", turned.total(1), 7);
    }

    private static void turnedAway() {
        Document.says(0, "If there is no free dock, the rider is turned away and goes on to the nearest other station that has a"
                + " free dock then (of several the lowest), where it arrives after the minutes for that way.");
        BikeShare x = Check.city("station 0 0 4 2;station 10 0 1 1;station 16 0 3 2;station 10 6 9 0;station 13 0 2 2;");
        x.rent(0, 1);
        x.rent(0, 1);
        Check.due("nobody ends", x.pass(11), 0);
        Check.due("both were turned away", x.total(4), 2);
        for (int i = 0; i < 2; i++) {
            Check.due("to the lowest of the nearest with a dock", x.rider(i, 1), 2);
            Check.due("after the minutes for that way", x.rider(i, 0), 18);
        }
        Check.due("one of them ends", x.pass(7), 1);
        Check.due("the other is turned away again", x.total(4), 3);
        Check.due("to the nearest from there", x.rider(0, 1), 3);
        Check.due("at", x.rider(0, 0), 31);
        Check.due("it ends there", x.pass(13), 1);
        Check.due("in", x.bikes(3), 1);
        BikeShare broken = Check.city("station 0 0 4 2;station 10 0 1 0;station 16 0 3 2;");
        broken.rent(0, 1);
        broken.breakDock(1);
        broken.pass(11);
        Check.due("a broken dock is not free", broken.total(4), 1);
    }

    private static void turnedAwayThen() {
        // Station 2 has its only free dock until the minute in which rider 0 takes it.
        BikeShare x = Check.city("station 0 0 4 3;station 10 0 1 1;station 0 10 3 2;station 50 0 9 0;");
        x.rent(0, 2);
        x.rent(0, 1);
        x.pass(11);
        Check.due("the dock was taken just before", x.rider(0, 1), 0);
        BikeShare y = Check.city("station 0 0 4 4;station 10 0 1 1;station 0 10 3 2;station 50 0 9 0;");
        y.rent(0, 1);
        y.addBikes(0, 1);
        y.rent(0, 2);
        y.addBikes(0, 1);
        y.pass(11);
        Check.due("the dock is free then, though it is taken in the same minute", y.rider(0, 1), 2);
        Check.due("at", y.rider(0, 0), 32);
        y.pass(21);
        Check.due("turned away there too", y.total(4), 2);
        Check.due("to the only one left", y.rider(0, 1), 3);
        Check.due("at", y.rider(0, 0), 93);
    }

    private static void noOtherStation() {
        Document.says(0, "If no other station has one, the rider arrives at the same station again one minute later.");
        BikeShare x = Check.city("pace 99 0;station 0 0 1 1;station 50 0 1 1;");
        x.rent(0, 1);
        x.addBikes(0, 1);
        x.pass(496);
        for (int i = 1; i <= 3; i++) {
            Check.due("turned away " + i + " times", x.total(4), i);
            Check.due("the same station", x.rider(0, 1), 1);
            Check.due("one minute later", x.rider(0, 0), 496 + i);
            x.pass(1);
        }
        x.removeBikes(1, 1);
        Check.due("a dock: the ride ends", x.pass(1), 1);
        Check.due("and counts no more", x.total(4), 4);
        BikeShare alone = Check.city("station 0 0 1 1;");
        alone.rent(0, 0);
        alone.addBikes(0, 1);
        alone.pass(10);
        Check.due("the only station", alone.total(4), 10);
        Check.due("its rider", alone.rider(0, 0), 11);
        Check.due("its origin", alone.rider(0, 2), 0);
        BikeShare closed = Check.city("station 0 0 1 1;station 5 0 1 0;");
        closed.rent(0, 1);
        closed.breakDock(0);
        closed.breakDock(1);
        closed.pass(1440);
        Check.due("no working dock anywhere", closed.total(4), 1435);
        closed.repairDock(0);
        closed.pass(1);
        Check.due("then to the other", closed.rider(0, 1), 0);
        Check.due("at", closed.rider(0, 0), 1447);
    }

    // ---- promises 13 to 20

    private static void noSuchPair(int promise, String what, Pair pair) {
        StationBounds.noSuchStation(promise, what + " from", NO_STATION, (x, s) -> pair.of(x, s, 0));
        StationBounds.noSuchStation(promise, what + " to", NO_STATION, (x, s) -> pair.of(x, 0, s));
        StationBounds.noSuchStation(promise, what + " both", NO_STATION, (x, s) -> pair.of(x, s, s));
    }

    private interface Pair {
        long of(BikeShare x, int from, int to);
    }

    private static void rideMinutes() {
        Document.says(13, "- `from`: a station - `to`: a station Returns the minutes that a rider needs.");
        noSuchPair(13, "rideMinutes", BikeShare::rideMinutes);
        BikeShare x = Check.city("pace 5 99;station 0 0 1 0;station 1 0 1 0;station 2 0 1 0;");
        Check.due("to the same", x.rideMinutes(2, 2), 1);
        Check.due("half a minute", x.rideMinutes(0, 1), 1);
        Check.due("a minute", x.rideMinutes(0, 2), 2);
    }

    private static void quote() {
        Document.says(14, "- `from`: a station - `to`: a station Returns the fare of a ride that would begin now (whether there is a"
                + " bike or not).");
        noSuchPair(14, "quote", BikeShare::quote);
        BikeShare x = Check.city("fare 50+bikes*10+docks;station 0 0 3 0;station 1 0 3 3;station 2 0 3 1;");
        Check.due("no bike", x.quote(0, 2), 52);
        Check.due("no dock", x.quote(2, 1), 60);
        Check.due("neither", x.quote(0, 1), 50);
        Check.due("all bikes, all docks", x.quote(1, 0), 83);
        Check.due("no ride began", x.total(2), 0);
    }

    private static void bonusAt() {
        Document.says(15, "- `station`: a station Returns the bonus that a rider would get who put a bike into a dock of a station now"
                + " (whether there is a free one or not).");
        StationBounds.noSuchStation(15, "bonusAt", NO_STATION, BikeShare::bonusAt);
        BikeShare x = Check.city("bonus 100 999;station 0 0 2 2;station 0 0 2 1;station 0 0 1 0;");
        Check.due("full", x.bonusAt(0), 0);
        Check.due("one missing", x.bonusAt(1), 999);
        Check.due("empty", x.bonusAt(2), 999);
        x.breakDock(2);
        Check.due("no working dock", x.bonusAt(2), 0);
        x.breakDock(1);
        Check.due("1 of 1 working dock", x.bonusAt(1), 0);
    }

    private static void bestDeal() {
        Document.says(16, "Finds the best deal: of all other stations with a free dock, the one for which the fare of a ride that would"
                + " begin now, minus the bonus that would be paid there now, is smallest; of several the lowest.");
        Document.says(16, "- `from`: a station Returns the station; NONE if there is none.");
        StationBounds.noSuchStation(16, "bestDeal", NO_STATION, BikeShare::bestDeal);
        BikeShare x = Check.city("fare minutes;bonus 50 5;station 50 50 4 0;station 55 50 4 2;station 50 60 4 1;station 54 50 4 4;"
                + "station 50 45 4 3;");
        Check.due("11 - 5 is as much as 6: the lowest", x.bestDeal(0), 1);
        x.addBikes(1, 2);
        Check.due("a full one is none: of 2 and 4 the lowest", x.bestDeal(0), 2);
        x.addBikes(2, 1);
        Check.due("no bonus there any more", x.bestDeal(0), 4);
        x.removeBikes(3, 1);
        Check.due("one free dock is enough", x.bestDeal(0), 3);
        Check.due("itself is none", x.bestDeal(3), 0);
        BikeShare none = Check.city("station 0 0 4 0;station 1 0 4 4;station 2 0 4 4;");
        Check.due("all others are full", none.bestDeal(0), -1);
        Check.due("alone", Check.city("station 0 0 4 0;").bestDeal(0), -1);
        BikeShare below = Check.city("fare docks-5;bonus 100 9;station 0 0 4 0;station 1 0 9 0;station 2 0 9 1;station 3 0 9 5;"
                + "station 4 0 9 4;");
        Check.due("fares below 0 are 0: -9 twice, the lowest", below.bestDeal(0), 3);
        BikeShare above = Check.city("fare 9000+minutes*900;station 0 0 4 0;station 9 0 9 0;station 8 0 9 0;station 0 0 9 0;");
        Check.due("9900 is less than 9999", above.bestDeal(0), 3);
        above.addBikes(3, 9);
        Check.due("fares above 9999 are 9999: the lowest", above.bestDeal(0), 1);
    }

    private static void riders() {
        Document.says(17, "Returns the number of riders on their way.");
        Check.due("a new object", new BikeShare().riders(), 0);
        BikeShare x = Check.city("station 0 0 9 2;station 5 0 1 1;");
        Check.due("none", x.riders(), 0);
        x.rent(0, 0);
        x.rent(0, 1);
        Check.due("two", x.riders(), 2);
        x.pass(1);
        Check.due("one has ended", x.riders(), 1);
        x.pass(5);
        Check.due("who is turned away is on the way", x.riders(), 1);
        x.pass(6);
        Check.due("none again", x.riders(), 0);
    }

    private static void riderOrder() {
        Document.says(18, "Returns a property of a rider on the way. The riders are ordered by the time of their arrival, and those with"
                + " the same one in the order in which their rides began.");
        BikeShare x = Check.city("station 0 0 9 9;station 6 0 9 9;station 3 0 9 0;trip 1 1 2;trip 0 0 2;");
        x.rent(0, 1);
        x.rent(1, 0);
        x.rent(0, 2);
        x.pass(1);
        x.rent(0, 2);
        x.pass(1);
        x.rent(1, 2);
        x.pass(1);
        x.rent(1, 2);
        int[][] due = {{4, 2, 0}, {5, 2, 0}, {6, 2, 1}, {7, 1, 0}, {7, 0, 1}, {7, 2, 1}};
        Check.due("six", x.riders(), due.length);
        for (int i = 0; i < due.length; i++) {
            for (int what = 0; what < 3; what++) {
                Check.due("rider " + i + ", " + what, x.rider(i, what), due[i][what]);
            }
        }
        BikeShare trips = Check.city("station 0 0 9 9;station 6 0 9 9;trip 1 1 2;trip 0 0 2;");
        trips.pass(1);
        trips.rent(0, 0);
        trips.pass(1);
        Check.due("trips of one minute by their numbers", trips.rider(0, 2), 1);
        Check.due("trips of one minute by their numbers", trips.rider(1, 2), 0);
        // Those who are turned away at minute 11 arrive at 22, behind, beside and before others.
        BikeShare turned = Check.city("station 0 0 20 4;station 10 0 1 1;station 20 0 20 9;station 50 0 20 9;");
        turned.breakDock(0);
        for (int i = 0; i < 15; i++) {
            turned.breakDock(0);
        }
        turned.rent(0, 1);
        turned.rent(0, 1);
        turned.addBikes(0, 2);
        turned.pass(1);
        turned.rent(2, 0);
        turned.rent(3, 0);
        turned.rent(2, 2);
        turned.pass(10);
        turned.rent(2, 1);
        int[][] then = {{22, 2, 0}, {22, 2, 0}, {22, 0, 2}, {22, 1, 2}, {52, 0, 3}};
        for (int i = 0; i < then.length; i++) {
            for (int what = 0; what < 3; what++) {
                Check.due("turned away, rider " + i + ", " + what, turned.rider(i, what), then[i][what]);
            }
        }
        BikeShare behind = Check.city("station 0 0 9 9;station 10 0 1 1;station 12 0 9 9;station 40 0 9 0;");
        behind.rent(0, 1);
        behind.addBikes(0, 1);
        behind.pass(10);
        behind.rent(2, 1);
        behind.rent(2, 3);
        behind.addBikes(2, 2);
        behind.pass(1);
        int[][] last = {{13, 1, 2}, {39, 3, 2}, {42, 3, 0}};
        Check.due("the turned away one is the last", behind.riders(), 3);
        for (int i = 0; i < last.length; i++) {
            Check.due("arrival", behind.rider(i, 0), last[i][0]);
            Check.due("to", behind.rider(i, 1), last[i][1]);
            Check.due("from", behind.rider(i, 2), last[i][2]);
        }
    }

    private static void rider() {
        Document.says(18, "- `rider`: place in this order, from 0 - `what`: 0: the time of arrival; 1: the station where the rider"
                + " arrives; 2: the station where the ride began Returns the property.");
        Document.says(18, "Throws `IndexOutOfBoundsException` if there is no such rider (checked first) Throws"
                + " `IllegalArgumentException` if what is out of range");
        BikeShare x = Check.city("station 0 0 9 3;station 5 0 9 0;");
        for (int count = 0; count <= 3; count++) {
            for (int wrong : new int[] {-1, count, count + 1, 768, Integer.MAX_VALUE, Integer.MIN_VALUE}) {
                for (int what : new int[] {0, 2, -1, 3}) {
                    Check.noStation(x, "rider " + wrong + ", " + what + " of " + count, () -> x.rider(wrong, what));
                }
            }
            for (int i = 0; i < count; i++) {
                int rider = i;
                Check.due("arrival", x.rider(i, 0), 6);
                Check.due("to", x.rider(i, 1), 1);
                Check.due("from", x.rider(i, 2), 0);
                for (int what : new int[] {-1, 3, Integer.MAX_VALUE, Integer.MIN_VALUE}) {
                    Check.badArgument(x, "rider " + i + ", " + what, () -> x.rider(rider, what));
                }
            }
            if (count < 3) {
                x.rent(0, 1);
            }
        }
        x.pass(6);
        Check.noStation(x, "they have arrived", () -> x.rider(0, 0));
    }

    private static void ridesBetween() {
        Document.says(19, "- `from`: a station - `to`: a station Returns how many rides have begun that were to go from one station to the"
                + " other.");
        noSuchPair(19, "ridesBetween", BikeShare::ridesBetween);
        BikeShare x = Check.city("station 0 0 2 2;station 5 0 1 1;station 9 0 9 0;trip 2 0 1;trip 0 1 3;");
        x.rent(0, 1);
        Check.due("begun", x.ridesBetween(0, 1), 1);
        Check.due("not back", x.ridesBetween(1, 0), 0);
        x.pass(1);
        Check.due("a lost trip has not begun", x.ridesBetween(2, 0), 0);
        x.pass(2);
        Check.due("a trip has", x.ridesBetween(0, 1), 2);
        x.pass(100);
        Check.due("they were turned away", x.total(4) > 0, true);
        Check.due("but were to go there", x.ridesBetween(0, 1), 2);
        Check.due("not elsewhere", x.ridesBetween(0, 0) + x.ridesBetween(0, 2), 0);
        BikeShare most = Check.city("station 0 0 4 2;".repeat(8));
        most.rent(7, 7);
        Check.due("the last station", most.ridesBetween(7, 7), 1);
        Check.due("as the busiest pair", most.busiestPair(), 63);
    }

    private static void busiestPair() {
        Document.says(20, "Returns 8 * from + to for the pair of stations between which most rides have begun (see ridesBetween); of"
                + " several pairs the one whose first ride began earliest; NONE if no ride has begun.");
        BikeShare x = Check.city("station 0 0 9 9;station 5 0 9 9;trip 1 0 1439;");
        Check.due("no ride", x.busiestPair(), -1);
        x.rent(1, 1);
        Check.due("1 to 1", x.busiestPair(), 9);
        x.rent(1, 0);
        Check.due("of two the earliest", x.busiestPair(), 9);
        x.rent(0, 1);
        x.rent(0, 1);
        Check.due("most", x.busiestPair(), 1);
        x.rent(1, 0);
        Check.due("as many, its first ride was earlier, its last one later", x.busiestPair(), 8);
        x.rent(1, 1);
        Check.due("as many, the earliest of three", x.busiestPair(), 9);
        x.undo();
        Check.due("undone", x.busiestPair(), 8);
        x.pass(1439);
        Check.due("a trip counts", x.busiestPair(), 8);
        Check.due("three now", x.ridesBetween(1, 0), 3);
        BikeShare lost = Check.city("station 0 0 9 0;trip 0 0 1;");
        lost.pass(5);
        Check.due("a lost trip is no ride", lost.busiestPair(), -1);
        BikeShare zero = Check.city("station 0 0 9 1;");
        zero.rent(0, 0);
        Check.due("0 to 0", zero.busiestPair(), 0);
    }
}
