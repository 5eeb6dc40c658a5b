/** Promises 13 to 20: rideMinutes, quote, bonusAt, bestDeal, riders, rider, ridesBetween, busiestPair. */
public final class RideTest {
    private RideTest() {
    }

    public static void main(String[] args) {
        minutes();
        sums();
        fareLimits();
        fareNames();
        fareOfRides();
        bonusAt();
        bonusOfRides();
        bestDeal();
        ridersInOrder();
        turnedAway();
        stuck();
        turnedAwayKeepTheirOrder();
        pairs();
        wrongCalls();
        Check.end("RideTest");
    }

    private static void minutes() {
        BikeShare x = Check.city("pace 7 1;station 0 0 4 2;station 3 4 4 2;station 99 99 4 2;");
        Check.due("to itself", x.rideMinutes(0, 0), 1);
        Check.due("49 / 10 rounded down", x.rideMinutes(0, 1), 5);
        Check.due("and back", x.rideMinutes(1, 0), 5);
        Check.due("198 * 7 / 10", x.rideMinutes(0, 2), 139);
        Check.due("the longest", Check.city("pace 99 0;station 0 0 1 0;station 99 99 1 0;").rideMinutes(1, 0), 1961);
        Check.due("pace 0", Check.city("pace 0 9;station 0 0 1 0;station 99 99 1 0;").rideMinutes(1, 0), 1);
    }

    private static int fare(String sum) {
        return Check.city("fare " + sum + ";station 0 0 9 4;station 3 2 5 2;").quote(0, 1);
    }

    private static void sums() {
        Check.due("a number", fare("77"), 77);
        Check.due("minutes", fare("minutes"), 6);
        Check.due("bikes at the first", fare("bikes"), 4);
        Check.due("docks at the second", fare("docks"), 3);
        Check.due("hour", fare("hour"), 0);
        Check.due("* before +", fare("1+2*3"), 7);
        Check.due("* before -", fare("20-2*3"), 14);
        Check.due("/ before +", fare("1+6/3"), 3);
        Check.due("- from the left", fare("10-3-2"), 5);
        Check.due("/ from the left", fare("100/5/2"), 10);
        Check.due("/ and * from the left", fare("7/2*2"), 6);
        Check.due("* and / from the left", fare("7*2/4"), 3);
        Check.due("- and + from the left", fare("10-3+2"), 9);
        Check.due("parentheses", fare("(1+2)*3"), 9);
        Check.due("parentheses behind -", fare("10-(3-2)"), 9);
        Check.due("deep ones", fare("2*(3+(4-(1+(6/(1+1)))))"), 6);
        Check.due("side by side", fare("(1+2)*(3+4)-(5)"), 16);
        Check.due("toward 0", fare("10+(0-7)/2"), 7);
        Check.due("toward 0 by a negative", fare("10+7/(0-2)"), 7);
        Check.due("by 0", fare("5+7/(1-1)"), 5);
        Check.due("by 0 then on", fare("7/0*3+1"), 1);
        Check.due("0 by 0", fare("0/0+4"), 4);
        Check.due("overflow", fare("9999*9999*43/1000/1000"), 9999 * 9999 * 43 / 1000 / 1000);
        Check.due("overflow below 0", fare("9999*9999*22/1000/1000+3000"), 9999 * 9999 * 22 / 1000 / 1000 + 3000);
        Check.due("overflow often", fare("9999*9999*9999*9999/1000/1000+4000"),
                9999 * 9999 * 9999 * 9999 / 1000 / 1000 + 4000);
        Check.due("overflow of +", fare("(1024*1024*2047+1024*1024*3)/1024/1024+3000"), 952 + 2);
        Check.due("the least by -1", fare("(0-1024*1024*2048)/(0-1)"), 0);
        Check.due("the least by -1, used", fare("(0-1024*1024*2048)/(0-1)/(0-1024*1024)"), 2048);
        Check.due("every depth waits", fare("1+2*(1+2*(1+2*(1+2*(1+2*(1+2*3)))))"), 255);
        Check.due("every depth waits twice", fare("1-2*(1-2*(1-2*(1-2*(1-2*(1-2*3)))))+300"), 1 - 2 * (1 - 2 * (1 - 2 * (1 - 2 * (1 - 2 * (1 - 2 * 3))))) + 300);
        Check.due("long", fare("1" + "+1".repeat(300)), 301);
        Check.due("long with *", fare("bikes" + "*1".repeat(300)), 4);
    }

    private static void fareLimits() {
        Check.due("at most 9999", fare("9999+1"), 9999);
        Check.due("9999", fare("9998+1"), 9999);
        Check.due("at least 0", fare("1-2"), 0);
        Check.due("0", fare("1-1"), 0);
    }

    private static void fareNames() {
        BikeShare x = Check.city("fare bikes*100+docks*10+minutes;station 0 0 9 4;station 3 2 5 2;");
        Check.due("the other way", x.quote(1, 0), 256);
        Check.due("to itself, as it is just before", x.quote(0, 0), 451);
        x.removeBikes(0, 4);
        Check.due("without a bike", x.quote(0, 1), 36);
        x.breakDock(1);
        Check.due("a broken dock is not free", x.quote(0, 1), 26);
        BikeShare clock = Check.city("fare hour;station 0 0 9 4;");
        clock.pass(59);
        Check.due("minute 59", clock.quote(0, 0), 0);
        clock.pass(1);
        Check.due("minute 60", clock.quote(0, 0), 1);
        clock.pass(1379);
        Check.due("minute 1439", clock.quote(0, 0), 23);
        clock.pass(1);
        Check.due("the next day", clock.quote(0, 0), 0);
    }

    private static void fareOfRides() {
        BikeShare x = Check.city("fare bikes*100+docks;station 0 0 9 4;station 3 2 5 2;trip 0 0 5;");
        x.rent(0, 1);
        Check.due("paid as just before", x.total(0), 403);
        x.rent(0, 0);
        Check.due("to the same station", x.total(0), 403 + 306);
        x.pass(5);
        Check.due("paid by a trip, the bike being back", x.total(0), 403 + 306 + 306);
    }

    private static void bonusAt() {
        BikeShare x = Check.city("bonus 50 40;station 0 0 4 2;station 0 0 4 1;station 0 0 5 2;station 0 0 4 4;");
        Check.due("half is not less than half", x.bonusAt(0), 0);
        Check.due("less than half", x.bonusAt(1), 40);
        Check.due("2 of 5", x.bonusAt(2), 40);
        Check.due("full", x.bonusAt(3), 0);
        x.breakDock(1);
        x.breakDock(1);
        Check.due("1 of 2 working docks", x.bonusAt(1), 0);
        BikeShare all = Check.city("bonus 100 7;station 0 0 2 1;station 0 0 2 2;station 0 0 1 0;");
        Check.due("100 percent", all.bonusAt(0), 7);
        Check.due("100 percent of a full one", all.bonusAt(1), 0);
        all.breakDock(2);
        Check.due("no working dock", all.bonusAt(2), 0);
        BikeShare close = Check.city("bonus 34 7;station 0 0 3 1;station 0 0 6 2;station 0 0 20 6;station 0 0 20 7;");
        Check.due("100 is less than 34 * 3", close.bonusAt(0), 7);
        Check.due("200 is less than 34 * 6", close.bonusAt(1), 7);
        Check.due("600 is less than 34 * 20", close.bonusAt(2), 7);
        Check.due("700 is not", close.bonusAt(3), 0);
        BikeShare closer = Check.city("bonus 67 7;station 0 0 3 2;");
        Check.due("200 is less than 67 * 3", closer.bonusAt(0), 7);
        BikeShare never = Check.city("bonus 0 7;station 0 0 2 0;");
        Check.due("0 percent", never.bonusAt(0), 0);
    }

    private static void bonusOfRides() {
        BikeShare x = Check.city("bonus 50 40;station 0 0 4 4;station 1 0 4 0;");
        x.rent(0, 1);
        x.rent(0, 1);
        x.rent(0, 1);
        x.pass(1);
        Check.due("not yet", x.total(1), 0);
        Check.due("three rides ended", x.pass(1), 3);
        Check.due("for the first two", x.total(1), 80);
    }

    private static void bestDeal() {
        BikeShare x = Check.city("bonus 30 15;fare minutes;station 0 0 9 0;station 10 0 9 9;station 20 0 9 3;"
                + "station 30 0 9 2;station 0 20 9 3;");
        Check.due("with the bonus, without a bike", x.bestDeal(0), 3);
        x.addBikes(3, 5);
        Check.due("of two the lower, not a full one", x.bestDeal(0), 2);
        Check.due("not itself", x.bestDeal(2), 0);
        x.breakDock(0);
        Check.due("from the full one", x.bestDeal(1), 0);
        BikeShare none = Check.city("station 0 0 9 0;station 10 0 9 9;");
        Check.due("none", none.bestDeal(0), -1);
        Check.due("alone", Check.city("station 0 0 9 0;").bestDeal(0), -1);
        BikeShare below = Check.city("fare 0;bonus 90 500;station 0 0 9 0;station 10 0 9 8;station 20 0 9 9;station 7 7 9 9;");
        below.removeBikes(2, 5);
        Check.due("below 0", below.bestDeal(0), 1);
        below.addBikes(1, 1);
        Check.due("of the open ones", below.bestDeal(0), 2);
    }

    private static void ridersInOrder() {
        BikeShare x = Check.city("pace 10 10;station 0 0 9 9;station 5 0 9 0;station 3 0 9 2;");
        Check.due("arrival", x.rent(0, 1), 6);
        Check.due("arrival", x.rent(0, 2), 4);
        x.pass(2);
        Check.due("arrival", x.rent(0, 2), 6);
        Check.due("arrival", x.rent(2, 2), 3);
        Check.due("arrival", x.rent(2, 0), 6);
        Check.due("riders", x.riders(), 5);
        int[][] due = {{3, 2, 2}, {4, 2, 0}, {6, 1, 0}, {6, 2, 0}, {6, 0, 2}};
        for (int i = 0; i < 5; i++) {
            for (int what = 0; what < 3; what++) {
                Check.due("rider " + i + " what " + what, x.rider(i, what), due[i][what]);
            }
        }
        Check.due("one ends", x.pass(1), 1);
        Check.due("riders then", x.riders(), 4);
        Check.due("the first then", x.rider(0, 0), 4);
        Check.due("the rest ends", x.pass(3), 4);
        Check.due("no riders then", x.riders(), 0);
    }

    private static void turnedAway() {
        BikeShare x = Check.city("station 0 0 4 4;station 9 0 2 2;station 9 4 2 2;station 5 0 2 0;station 13 0 2 1;");
        x.rent(0, 1);
        x.rent(0, 1);
        x.rent(0, 1);
        x.rent(0, 1);
        Check.due("nobody ends", x.pass(10), 0);
        Check.due("all turned away", x.total(4), 4);
        Check.due("all on their way", x.riders(), 4);
        for (int i = 0; i < 4; i++) {
            Check.due("go on to the nearest, of two the lower", x.rider(i, 1), 3);
            Check.due("after the minutes for that way", x.rider(i, 0), 15);
            Check.due("from where the ride began", x.rider(i, 2), 0);
        }
        Check.due("two end", x.pass(5), 2);
        Check.due("two more turned away", x.total(4), 6);
        Check.due("to the next", x.rider(0, 1), 0);
        Check.due("at", x.rider(1, 0), 21);
        Check.due("counted for the station that was meant", x.ridesBetween(0, 1), 4);
        Check.due("not for another", x.ridesBetween(0, 3), 0);
        Check.due("the rides are four", x.total(2), 4);
        Check.due("the last two end", x.pass(6), 2);
        Check.due("in", x.bikes(0), 2);
    }

    private static void stuck() {
        BikeShare x = Check.city("station 0 0 1 1;station 5 0 1 1;");
        x.rent(0, 1);
        x.addBikes(0, 1);
        x.pass(6);
        Check.due("turned away", x.total(4), 1);
        Check.due("the same station", x.rider(0, 1), 1);
        Check.due("one minute later", x.rider(0, 0), 7);
        x.pass(10);
        Check.due("every minute again", x.total(4), 11);
        x.removeBikes(0, 1);
        x.pass(1);
        Check.due("then to the other", x.rider(0, 1), 0);
        Check.due("at", x.rider(0, 0), 23);
        x.pass(6);
        Check.due("ended", x.bikes(0), 1);
        Check.due("in all", x.total(4), 12);
    }

    private static void turnedAwayKeepTheirOrder() {
        // One rider is turned away at station 1 and then arrives at station 2 together with another
        // one from station 3; there is one free dock for both.
        String city = "pace 10 10;station 0 0 9 9;station 10 0 1 1;station 14 0 2 1;station 28 0 9 9;";
        BikeShare x = Check.city(city);
        x.rent(0, 1);
        x.pass(1);
        x.rent(3, 2);
        x.pass(10);
        Check.due("goes on", x.total(4), 1);
        Check.due("began first", x.rider(0, 2), 0);
        Check.due("at the same time", x.rider(0, 0), 16);
        Check.due("began last", x.rider(1, 2), 3);
        Check.due("at the same time", x.rider(1, 0), 16);
        Check.due("one ends", x.pass(5), 1);
        Check.due("the other goes on", x.rider(0, 2), 3);
        Check.due("to the lower of two", x.rider(0, 1), 0);
        Check.due("after the minutes of the way", x.rider(0, 0), 31);
        BikeShare y = Check.city("pace 10 10;station 0 0 9 9;station 10 0 1 1;station 14 0 2 1;station 30 0 9 9;");
        y.rent(3, 2);
        y.pass(1);
        y.rent(0, 1);
        y.pass(11);
        Check.due("goes on", y.total(4), 1);
        Check.due("began first", y.rider(0, 2), 3);
        Check.due("at the same time", y.rider(0, 0), 17);
        Check.due("began last", y.rider(1, 2), 0);
        Check.due("at the same time", y.rider(1, 0), 17);
        Check.due("one ends", y.pass(5), 1);
        Check.due("the other goes on", y.rider(0, 2), 0);
    }

    private static void pairs() {
        BikeShare x = Check.city("station 0 0 9 9;station 1 0 9 9;station 2 0 9 0;trip 2 1 5;trip 1 1 5;trip 0 2 5;");
        Check.due("no ride", x.busiestPair(), -1);
        Check.due("none between", x.ridesBetween(0, 1), 0);
        x.rent(1, 2);
        Check.due("one", x.busiestPair(), 10);
        x.rent(0, 1);
        Check.due("of two the earlier", x.busiestPair(), 10);
        x.rent(0, 1);
        Check.due("more", x.busiestPair(), 1);
        x.rent(1, 2);
        Check.due("as many, but earlier", x.busiestPair(), 10);
        Check.due("between 1 and 2", x.ridesBetween(1, 2), 2);
        Check.due("not between 2 and 1", x.ridesBetween(2, 1), 0);
        x.removeBikes(1, 6);
        x.pass(5);
        Check.due("a trip counts", x.ridesBetween(0, 2), 1);
        Check.due("trips count", x.total(2), 7);
        x.rent(1, 1);
        x.rent(1, 1);
        Check.due("the same station", x.busiestPair(), 9);
        BikeShare low = Check.city("station 0 0 9 9;station 1 0 9 9;");
        low.rent(0, 0);
        Check.due("from 0 to 0", low.busiestPair(), 0);
        low.rent(1, 1);
        Check.due("the later of as many is higher", low.busiestPair(), 0);
        BikeShare y = Check.city("station 0 0 9 9;station 1 0 9 9;trip 1 0 3;trip 0 1 3;");
        y.pass(3);
        Check.due("in one minute by the number of the trip", y.busiestPair(), 8);
    }

    private static void wrongCalls() {
        BikeShare x = Check.city("station 0 0 4 2;station 5 5 4 2;");
        x.rent(0, 1);
        for (int s : new int[] {-1, 2, 8, Integer.MAX_VALUE, Integer.MIN_VALUE}) {
            Check.noStation(x, "rideMinutes from " + s, () -> x.rideMinutes(s, 0));
            Check.noStation(x, "rideMinutes to " + s, () -> x.rideMinutes(0, s));
            Check.noStation(x, "quote from " + s, () -> x.quote(s, 0));
            Check.noStation(x, "quote to " + s, () -> x.quote(0, s));
            Check.noStation(x, "bonusAt " + s, () -> x.bonusAt(s));
            Check.noStation(x, "bestDeal " + s, () -> x.bestDeal(s));
            Check.noStation(x, "ridesBetween from " + s, () -> x.ridesBetween(s, 0));
            Check.noStation(x, "ridesBetween to " + s, () -> x.ridesBetween(0, s));
            Check.noStation(x, "rider " + s, () -> x.rider(s, 0));
            Check.noStation(x, "rider first " + s, () -> x.rider(s, 7));
        }
        Check.noStation(x, "rider 1", () -> x.rider(1, 0));
        Check.badArgument(x, "rider what -1", () -> x.rider(0, -1));
        Check.badArgument(x, "rider what 3", () -> x.rider(0, 3));
    }
}
