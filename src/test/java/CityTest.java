/** Promises 1 to 6: a new object, append, parse, size, time, fleet. */
public final class CityTest {
    private static final String STATION = "station 0 0 4 2;";

    private CityTest() {
    }

    public static void main(String[] args) {
        newObject();
        valuesWithoutStatements();
        append();
        parseGood();
        parseLength();
        syntaxErrors();
        repeated();
        ranges();
        tooMany();
        lowestErrorFirst();
        errorKeepsEverything();
        successStartsAnew();
        smallAfterLarge();
        totalsStartAnew();
        errorsLeaveNothing();
        sizes();
        timeAndFleet();
        Check.end("CityTest");
    }

    private static void newObject() {
        BikeShare x = new BikeShare();
        for (int what = 0; what < 3; what++) {
            Check.due("new size " + what, x.size(what), 0);
        }
        for (int what = 0; what < 6; what++) {
            Check.due("new total " + what, x.total(what), 0);
            Check.due("new forecast " + what, x.forecast(1440, what), 0);
        }
        Check.due("new time", x.time(), 0);
        Check.due("new fleet", x.fleet(), 0);
        Check.due("new imbalance", x.imbalance(), 0);
        Check.due("new riders", x.riders(), 0);
        Check.due("new busiestPair", x.busiestPair(), -1);
        Check.due("new undo", x.undo(), -1);
        Check.due("new slot 0", x.restoreSnapshot(0), false);
        Check.due("new slot 1", x.restoreSnapshot(1), false);
        Check.noStation(x, "new bikes", () -> x.bikes(0));
        Check.noStation(x, "new truck", () -> x.truck(0, 0));
        Check.noStation(x, "new rider", () -> x.rider(0, 0));
        Check.badArgument(x, "new parse(1)", () -> x.parse(1));
        Check.due("new parse(0)", x.parse(0), 0);
        Check.due("new pass", x.pass(7), 0);
        Check.due("time after it", x.time(), 7);
        Check.due("undo of it", x.undo(), 0);
        Check.due("time before it", x.time(), 0);
    }

    private static void valuesWithoutStatements() {
        BikeShare x = Check.city("station 0 0 10 2;station 0 20 9 0;truck 0 5;");
        Check.due("rider pace 10", x.rideMinutes(0, 1), 21);
        x.dispatch(0, 1, 0);
        Check.due("truck pace 5", x.truck(0, 2), 11);
        Check.due("balance 20: 2 bikes of 10", x.isBalanced(0), true);
        Check.due("balance 20: 1 missing of 9", x.imbalance(), 1);
        Check.due("bonus 0", x.bonusAt(1), 0);
        Check.due("fare 100", x.quote(0, 1), 100);
    }

    private static void append() {
        BikeShare x = new BikeShare();
        // The bytes of "pace 1 2;balance 30;" in five numbers.
        Check.due("append", x.append(0x70616365, 0x20312032, 0x3b62616c, 0x616e6365, 0x2033303b), 20);
        Check.due("its bytes in order", x.parse(20), 0);
        Check.due("a byte over 127", x.append(0x70616365, 0x3120f120, 0, 0, 0), 20);
        Check.due("it is illegal", x.parse(8), -2 - (8 * 6 + 1));
        Check.due("bytes with the highest bit", x.append(-1, -1, -1, -1, -1), 20);
        Check.due("they are illegal", x.parse(1), -2 - 1);
        for (int i = 1; i <= 35; i++) {
            Check.due("append " + i, x.append(0x20202020, 0x0a0a0a0a, 0x20202020, 0x20202020, 0x20202020), 20 * i);
        }
        Check.due("append to a full buffer", x.append(0x78787878, 0, 0, 0, 0), -1);
        Check.due("and again", x.append(0, 0, 0, 0, 0), -1);
        Check.badArgument(x, "parse(701)", () -> x.parse(701));
        Check.due("700 bytes of white space", x.parse(700), 0);
        Check.due("the buffer is empty then", x.append(0, 0, 0, 0, 0), 20);
    }

    private static void parseGood() {
        BikeShare x = new BikeShare();
        Check.due("one station", Check.parse(x, STATION), 1);
        Check.due("no station", Check.parse(x, ""), 0);
        Check.due("white space", Check.parse(x, " \n \n"), 0);
        Check.due("no white space needed", Check.parse(x, "station0 1 2 0;truck0 20;fare(minutes)*2;"), 1);
        Check.due("white space everywhere", Check.parse(x, "\n station\n0 \n1  20\n20 ; \n"), 1);
        Check.due("leading zeros", Check.parse(x, "station 0099 0001 0001 0000;"), 1);
        Check.due("eight", Check.parse(x, STATION.repeat(8)), 8);
        Check.due("edges", Check.parse(x, "station 99 99 20 20;truck 0 1;truck 0 20;trip 0 0 0;trip 0 0 1439;"
                + "pace 0 99;balance 50;bonus 100 999;fare 9999;"), 1);
        Check.due("edges below", Check.parse(x, "station 0 0 1 0;pace 99 0;balance 0;bonus 0 0;fare 0;"), 1);
        Check.due("five open", Check.parse(x, "fare (((((1)))))*(((((2)))));"), 0);
        Check.due("open again", Check.parse(x, "fare ((((1)+(2))*(3)))+((((((1)))))"), -2 - (8 * 28 + 4));
        Check.due("every factor", Check.parse(x, "fare minutes+bikes-docks*hour/7;"), 0);
    }

    private static void parseLength() {
        BikeShare x = new BikeShare();
        Check.put(x, STATION + "@@@@");
        Check.badArgument(x, "parse(-1)", () -> x.parse(-1));
        Check.badArgument(x, "parse(21)", () -> x.parse(21));
        Check.badArgument(x, "parse(MAX)", () -> x.parse(Integer.MAX_VALUE));
        Check.badArgument(x, "parse(MIN)", () -> x.parse(Integer.MIN_VALUE));
        Check.due("only the first bytes count", x.parse(16), 1);
        Check.badArgument(x, "the buffer is empty after a success", () -> x.parse(1));
        Check.put(x, STATION + "@@@@");
        Check.due("all bytes", x.parse(20), -2 - (8 * 16 + 1));
        Check.badArgument(x, "the buffer is empty after an error", () -> x.parse(1));
        Check.due("append after an error", x.append(0, 0, 0, 0, 0), 20);
        Check.due("parse(0) empties it too", x.parse(0), 0);
        Check.badArgument(x, "empty again", () -> x.parse(1));
        Check.put(x, "station 0 0 15 1;");
        Check.due("a run ends with the length", x.parse(13), -2 - (8 * 13 + 1));
    }

    private static void error(String text, int offset, int kind) {
        Check.due("parse of " + text, Check.parse(new BikeShare(), text), -2 - (8 * offset + kind));
    }

    private static void syntaxErrors() {
        error("x", 0, 1);
        error(";", 0, 1);
        error("7;", 0, 1);
        error("stations 1 1 1 1;", 0, 1);
        error("Station 1 1 1 1;", 0, 1);
        error("stat ion 1 1 1 1;", 0, 1);
        error("minutes;", 0, 1);
        for (String word : new String[] {"xtation 0 0 1 0;", "cruck 0 1;", "grip 0 0 0;", "face 1 1;", "valance 1;",
            "conus 1 1;", "dare 1;", "stationz 0 0 1 0;", "astation 0 0 1 0;", "zfare 1;", "fares 1;", "far 1;"}) {
            error(word, 0, 1);
        }
        for (String word : new String[] {"ninutes", "likes", "rocks", "four", "minutez", "our", "hours"}) {
            error("fare " + word + ";", 5, 1);
        }
        error("\tstation 0 0 1 0;", 0, 1);
        error(" \r", 1, 1);
        error("station", 7, 1);
        error("station 0 0 1 ", 14, 1);
        error("station 0 0 1 0", 15, 1);
        error("station 0 0 1 0 \n ", 18, 1);
        error("station 0 0 1 0 0;", 16, 1);
        error("station 0 0 1;", 13, 1);
        error("station 0 -1 1 0;", 10, 1);
        error("station 00000 0 1 0;", 8, 1);
        error("station 0 0 1 0;;", 16, 1);
        error("station 0 0 1 0,", 15, 1);
        error("station 0 0 1 0.", 15, 1);
        error("station 0 0 1 0:", 15, 1);
        error("station 0 0 1 0`;", 15, 1);
        error("station 0 0 1 0{;", 15, 1);
        error("station 0 0 1 0/;", 15, 1);
        error("truck truck;", 6, 1);
        error("trip", 4, 1);
        error("pace 1;", 6, 1);
        error("pace 1 1 1;", 9, 1);
        error("balance;", 7, 1);
        error("bonus 1;", 7, 1);
        error("balance (1);", 8, 1);
        error("fare;", 4, 1);
        error("fare 1+;", 7, 1);
        error("fare 1 2;", 7, 1);
        error("fare +1;", 5, 1);
        error("fare -1;", 5, 1);
        error("fare ();", 6, 1);
        error("fare (1;", 7, 1);
        error("fare 1);", 6, 1);
        error("fare (1", 7, 1);
        error("fare (", 6, 1);
        error("fare 1*", 7, 1);
        error("fare 1", 6, 1);
        error("fare 1(2);", 6, 1);
        error("fare (1)(2);", 8, 1);
        error("fare 10000;", 5, 1);
        error("fare minute;", 5, 1);
        error("fare minutess;", 5, 1);
        error("fare minutesbikes;", 5, 1);
        error("fare station;", 5, 1);
        error("fare 1 fare 1;", 7, 1);
        error("fare (((((1((", 11, 1);
    }

    private static void repeated() {
        error("pace 1 1;pace 1 1;", 9, 2);
        error("balance 1; balance 1;", 11, 2);
        error("bonus 1 1;balance 1;bonus", 20, 2);
        error("fare 1;station 0 0 1 0;fare 1;", 23, 2);
        Check.due("each once", Check.parse(new BikeShare(), "fare 1;bonus 1 1;balance 1;pace 1 1;"), 0);
        BikeShare x = Check.city("fare 1;bonus 1 1;balance 1;pace 1 1;");
        Check.due("each once in the next city too", Check.parse(x, "pace 1 1;fare 1;balance 1;bonus 1 1;"), 0);
    }

    private static void ranges() {
        error("station 100 0 1 0;", 8, 3);
        error("station 0 100 1 0;", 10, 3);
        error("station 0 0 0 0;", 12, 3);
        error("station 0 0 21 0;", 12, 3);
        error("station 0 0 4 5;", 14, 3);
        error("station 0 0 20 9999;", 15, 3);
        error("truck 0 3;", 6, 3);
        error(STATION + "truck 1 3;", 22, 3);
        error(STATION + "truck 0 0;", 24, 3);
        error(STATION + "truck 0 21;", 24, 3);
        error("trip 0 0 0;", 5, 3);
        error(STATION + "trip 1 0 0;", 21, 3);
        error(STATION + "trip 0 1 0;", 23, 3);
        error(STATION + "trip 0 0 1440;", 25, 3);
        error(STATION + "truck 1 1;" + STATION, 22, 3);
        error("pace 100 0;", 5, 3);
        error("pace 0 100;", 7, 3);
        error("balance 51;", 8, 3);
        error("bonus 101 0;", 6, 3);
        error("bonus 0 1000;", 8, 3);
        error("balance 0051", 8, 3);
    }

    private static void tooMany() {
        error(STATION.repeat(8) + "station", 128, 4);
        String one = "station 0 0 1 0;";
        Check.due("three trucks", Check.parse(new BikeShare(), one + "truck 0 1;".repeat(3)), 1);
        error(one + "truck 0 1;".repeat(3) + "truck 0 1;", 46, 4);
        Check.due("30 trips", Check.parse(new BikeShare(), one + "trip 0 0 0;".repeat(30)), 1);
        error(one + "trip 0 0 0;".repeat(30) + " trip 0 0 0;", 16 + 330 + 1, 4);
        error("fare ((((((1))))));", 10, 4);
        error("fare (((((1+(", 12, 4);
        error("fare (((((1)))))+((((((", 22, 4);
    }

    private static void lowestErrorFirst() {
        error("balance 51 @", 8, 3);
        error("balance 50 @ 99", 11, 1);
        error("pace 1 1;pace 100 1;", 9, 2);
        error("station 100 100 100 100", 8, 3);
        error(STATION.repeat(8) + "station 100 0 0 0;", 128, 4);
        error("truck 5 99;", 6, 3);
        error("fare 1 balance 51;", 7, 1);
    }

    private static void errorKeepsEverything() {
        BikeShare x = Check.city("station 1 2 9 5;station 30 4 6 1;truck 1 4;trip 0 1 5;pace 7 8;balance 30;"
                + "bonus 40 50;fare minutes*3+bikes;");
        x.saveSnapshot(1);
        x.rent(0, 1);
        x.dispatch(0, 0, 2);
        x.breakDock(1);
        x.pass(9);
        java.util.List<Integer> before = Check.everything(x);
        Check.due("an error at the very end", Check.parse(x, "station 5 5 5 5;truck 0 7;trip 0 0 9;pace 1 1;"
                + "balance 1;bonus 1 1;fare 7+8;@"), -2 - (8 * 75 + 1));
        Check.due("everything stays", Check.everything(x).equals(before), true);
        Check.due("the history stays", x.undo(), 3);
        Check.due("the slot stays", x.restoreSnapshot(1), true);
        Check.due("what it held", x.time(), 0);
        Check.due("the other slot is empty still", x.restoreSnapshot(0), false);
    }

    private static void successStartsAnew() {
        String text = "station 1 2 9 5;station 30 4 6 1;truck 1 4;trip 0 1 5;";
        BikeShare x = Check.city(text);
        x.saveSnapshot(0);
        x.saveSnapshot(1);
        x.rent(0, 1);
        x.dispatch(0, 1, 0);
        x.dispatch(0, 0, 2);
        x.dispatch(0, 0, 3);
        x.breakDock(1);
        x.pass(9);
        Check.due("the same again", Check.parse(x, text), 2);
        Check.due("as at first", Check.everything(x).equals(Check.everything(Check.city(text))), true);
        Check.due("no history", x.undo(), -1);
        Check.due("slot 0 is empty", x.restoreSnapshot(0), false);
        Check.due("slot 1 is empty", x.restoreSnapshot(1), false);
        x.pass(100);
        Check.due("a success with nothing", Check.parse(x, ""), 0);
        Check.due("as a new object",
                Check.everything(x).equals(Check.everything(new BikeShare())), true);
        BikeShare y = Check.city("pace 1 1;balance 9;bonus 9 9;fare 7;");
        Check.due("without statements again", Check.parse(y, text), 2);
        Check.due("their values too", Check.everything(y).equals(Check.everything(Check.city(text))), true);
    }

    /** What a text of many things leaves behind must not be seen in a smaller city after it. */
    private static void smallAfterLarge() {
        String large = "station 9 9 9 9;".repeat(8) + "truck 7 9;truck 6 9;truck 5 9;" + "trip 7 7 1;".repeat(9)
                + "pace 99 99;balance 50;bonus 100 999;fare 1+2*3;";
        String small = "station 0 0 9 5;station 5 0 9 1;truck 0 4;trip 0 1 5;";
        BikeShare x = new BikeShare();
        for (int i = 0; i < 3; i++) {
            Check.due("large", Check.parse(x, large), 8);
            for (int truck = 0; truck < 3; truck++) {
                x.dispatch(truck, 0, 0);
                x.dispatch(truck, 1, 0);
            }
            x.rent(7, 7);
            x.breakDock(7);
            x.rent(6, 0);
            x.rent(0, 5);
            x.addBikes(6, 1);
            x.addBikes(0, 1);
            x.pass(500);
            x.tourMinutes(0);
        }
        for (int i = 0; i < 3; i++) {
            Check.due("small", Check.parse(x, small), 2);
            Check.due("as if it were the first", Check.everything(x).equals(Check.everything(Check.city(small))), true);
            Check.due("its tour", x.tourMinutes(0), Check.city(small).tourMinutes(0));
            Check.due("its fare", x.quote(0, 1), 100);
        }
    }

    private static void totalsStartAnew() {
        String text = "bonus 90 5;station 0 0 9 5;station 5 0 1 1;station 9 0 1 1;trip 1 0 3;trip 1 0 3;";
        BikeShare x = Check.city(text);
        x.rent(0, 2);
        x.pass(100);
        Check.due("a bonus", x.total(1) > 0, true);
        Check.due("a trip lost", x.total(3), 1);
        Check.due("turned away", x.total(4) > 0, true);
        Check.parse(x, text);
        for (int what = 0; what < 6; what++) {
            Check.due("from the beginning " + what, x.total(what), 0);
        }
    }

    private static void errorsLeaveNothing() {
        BikeShare x = new BikeShare();
        for (int i = 0; i < 12; i++) {
            Check.due("open", Check.parse(x, "fare 1+2*(((((3+4*"), -2 - (8 * 18 + 1));
        }
        Check.due("then a good one", Check.parse(x, "station 0 0 1 0;fare 1+2*(1+2*(1+2*(1+2*(1+2*(1+2)))));"), 1);
        Check.due("with its own sum", x.quote(0, 0), 127);
        Check.due("white space up to a word", Check.parse(x, " ".repeat(696) + "fare"), -2 - (8 * 700 + 1));
        Check.due("white space up to a number", Check.parse(x, " ".repeat(691) + "fare 1234"), -2 - (8 * 700 + 1));
        Check.due("white space up to the end", Check.parse(x, "fare 7;" + " ".repeat(693)), 0);
        Check.due("a full text", Check.parse(x, "fare 1" + "+1".repeat(346) + " ;"), 0);
    }

    private static void sizes() {
        BikeShare x = Check.city(STATION.repeat(3) + "truck 2 1;truck 0 1;" + "trip 0 2 9;".repeat(7));
        Check.due("stations", x.size(0), 3);
        Check.due("trucks", x.size(1), 2);
        Check.due("trips", x.size(2), 7);
        Check.badArgument(x, "size(-1)", () -> x.size(-1));
        Check.badArgument(x, "size(3)", () -> x.size(3));
    }

    private static void timeAndFleet() {
        BikeShare x = Check.city("station 0 0 4 3;station 9 0 4 2;truck 0 2;");
        Check.due("time at first", x.time(), 0);
        Check.due("fleet at first", x.fleet(), 5);
        x.rent(0, 1);
        Check.due("fleet with a rider", x.fleet(), 5);
        x.dispatch(0, 0, 0);
        Check.due("on the truck", x.total(5), 2);
        Check.due("fleet with a truck", x.fleet(), 5);
        x.addBikes(0, 1);
        Check.due("fleet with a new bike", x.fleet(), 6);
        x.removeBikes(1, 2);
        Check.due("fleet without two", x.fleet(), 4);
        x.pass(1440);
        Check.due("time then", x.time(), 1440);
        Check.due("fleet then", x.fleet(), 4);
    }
}
