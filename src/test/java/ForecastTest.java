import java.util.List;

/** Promises 24 to 26: total, forecast, runsOut. */
public final class ForecastTest {
    private static final String CITY = "pace 10 10;bonus 50 7;fare minutes+hour;station 0 0 4 3;station 5 0 2 2;"
            + "station 9 0 3 0;truck 1 5;trip 0 1 3;trip 2 0 4;trip 0 2 4;trip 0 2 65;trip 1 2 1439;";

    private ForecastTest() {
    }

    public static void main(String[] args) {
        totals();
        forecasts();
        forecastOverMidnight();
        forecastBeyondTheLastTime();
        runsOut();
        runsOutLimits();
        nothingChanges();
        wrongCalls();
        Check.end("ForecastTest");
    }

    private static int[] totals(BikeShare x) {
        int[] all = new int[6];
        for (int what = 0; what < 6; what++) {
            all[what] = x.total(what);
        }
        return all;
    }

    private static int[] forecasts(BikeShare x, int minutes) {
        int[] all = new int[6];
        for (int what = 0; what < 6; what++) {
            all[what] = x.forecast(minutes, what);
        }
        return all;
    }

    private static void totals() {
        BikeShare x = Check.city(CITY);
        Check.due("at first", totals(x), 0, 0, 0, 0, 0, 0);
        x.pass(3);
        Check.due("trip 0", totals(x), 6, 0, 1, 0, 0, 0);
        x.pass(1);
        Check.due("trip 1 is lost, trip 2 not", totals(x), 16, 0, 2, 1, 0, 0);
        x.pass(5);
        Check.due("trip 0 is turned away", totals(x), 16, 0, 2, 1, 1, 0);
        x.pass(5);
        Check.due("both end at 14", totals(x), 16, 14, 2, 1, 1, 0);
        x.dispatch(0, 1, 0);
        Check.due("two bikes on the truck", totals(x), 16, 14, 2, 1, 1, 2);
        x.pass(51);
        Check.due("trip 3 at one o'clock", totals(x), 27, 14, 3, 1, 1, 2);
        x.pass(1439 - 65);
        Check.due("trip 4 is lost", totals(x), 27, 14, 3, 2, 1, 2);
        Check.due("every ride ended", x.riders(), 0);
        x.pass(5);
        Check.due("on the next day trip 1 begins, 0 and 2 do not", totals(x), 37, 14, 4, 4, 1, 2);
    }

    private static void forecasts() {
        BikeShare x = Check.city(CITY);
        Check.due("after 0", forecasts(x, 0), 0, 0, 0, 0, 0, 0);
        Check.due("after 3", forecasts(x, 3), 6, 0, 1, 0, 0, 0);
        Check.due("after 4", forecasts(x, 4), 16, 0, 2, 1, 0, 0);
        Check.due("after 9", forecasts(x, 9), 16, 0, 2, 1, 1, 0);
        Check.due("after 14", forecasts(x, 14), 16, 14, 2, 1, 1, 0);
        Check.due("after 65", forecasts(x, 65), 27, 14, 3, 1, 1, 0);
        x.dispatch(0, 0, 1);
        Check.due("the truck arrives", forecasts(x, 5)[5], 0);
        Check.due("after 6", forecasts(x, 6)[5], 0);
        x.dispatch(0, 0, 0);
        Check.due("its queue is done too", forecasts(x, 6)[5], 1);
        for (int minutes : new int[] {0, 1, 5, 6, 7, 30, 100, 1439, 1440}) {
            BikeShare y = Check.city(CITY);
            y.dispatch(0, 0, 1);
            y.dispatch(0, 2, 1);
            y.rent(0, 0);
            int[] due = forecasts(y, minutes);
            if (minutes > 0) {
                y.pass(minutes);
            }
            Check.due("as it comes after " + minutes, totals(y), due);
        }
    }

    private static void forecastOverMidnight() {
        BikeShare x = Check.city("fare hour;station 0 0 4 3;trip 0 0 0;trip 0 0 1439;");
        Check.due("minute 0 of the first day has passed", x.forecast(1438, 2), 0);
        Check.due("1439", x.forecast(1439, 2), 1);
        Check.due("1440", x.forecast(1440, 2), 2);
        Check.due("hours 23 and 0", x.forecast(1440, 0), 23);
    }

    private static void forecastBeyondTheLastTime() {
        BikeShare x = Check.city("station 0 0 4 3;trip 0 0 1358;trip 0 0 1359;trip 0 0 1360;trip 0 0 0;");
        for (int i = 0; i < 6; i++) {
            x.pass(1440);
        }
        x.pass(1358);
        Check.due("time 9998", x.time(), 9998);
        int rides = x.total(2);
        Check.due("9999", x.forecast(1, 2), rides + 1);
        Check.due("10000", x.forecast(2, 2), rides + 2);
        Check.due("a day", x.forecast(1440, 2), rides + 4);
        Check.badState(x, "but it cannot pass", () -> x.pass(2));
        x.pass(1);
        Check.due("at the end", x.forecast(1440, 2), rides + 5);
        Check.due("runs out beyond it", Check.city("station 0 0 4 3;").runsOut(0, false), -1);
    }

    private static void runsOut() {
        BikeShare x = Check.city(CITY);
        Check.due("no bike now", x.runsOut(2, false), 0);
        Check.due("no dock now", x.runsOut(1, true), 0);
        Check.due("bikes of 0: the third trip", x.runsOut(0, false), 65);
        Check.due("docks of 0", x.runsOut(0, true), -1);
        Check.due("bikes of 1", x.runsOut(1, false), -1);
        Check.due("docks of 2: the rides of trips 0, 2 and 3", x.runsOut(2, true), 75);
        x.pass(10);
        Check.due("from now", x.runsOut(0, false), 55);
        x.breakDock(0);
        x.breakDock(0);
        x.addBikes(0, 1);
        Check.due("broken docks are not free", x.runsOut(0, true), 0);
        // At minute 5 the only bike leaves and another comes back: at the end of it there is one.
        BikeShare y = Check.city("pace 10 10;station 0 0 4 1;station 4 0 4 4;trip 0 1 5;truck 1 4;");
        y.rent(1, 0);
        Check.due("as it is at the end of a minute", y.runsOut(0, false), -1);
        BikeShare z = Check.city("pace 10 10;station 0 0 4 1;station 5 0 4 4;trip 0 1 5;");
        z.rent(1, 0);
        Check.due("it comes one minute later", z.runsOut(0, false), 5);
    }

    private static void runsOutLimits() {
        BikeShare x = Check.city("station 0 0 4 1;station 5 0 9 0;trip 0 1 1;");
        x.pass(1);
        x.addBikes(0, 1);
        Check.due("1440 minutes are enough", x.runsOut(0, false), 1440);
        BikeShare y = Check.city("station 0 0 4 1;station 5 0 9 0;trip 0 1 1;trip 0 1 2;");
        y.pass(1);
        y.addBikes(0, 2);
        Check.due("the second trip is not enough", y.runsOut(0, false), 1440);
        BikeShare z = Check.city("station 0 0 4 2;station 5 0 9 0;trip 0 1 1;");
        z.pass(1);
        z.addBikes(0, 1);
        Check.due("1441 would be needed", z.runsOut(0, false), -1);
    }

    private static void nothingChanges() {
        BikeShare x = Check.city(CITY);
        x.rent(0, 1);
        x.dispatch(0, 0, 1);
        x.dispatch(0, 2, 1);
        List<Integer> before = Check.everything(x);
        x.forecast(1440, 0);
        x.runsOut(0, true);
        x.total(3);
        Check.due("everything is as before", Check.everything(x).equals(before), true);
        Check.due("no change to undo but the three", x.undo(), 2);
    }

    private static void wrongCalls() {
        BikeShare x = Check.city(CITY);
        for (int wrong : new int[] {-1, 6, Integer.MAX_VALUE, Integer.MIN_VALUE}) {
            Check.badArgument(x, "total " + wrong, () -> x.total(wrong));
            Check.badArgument(x, "forecast of " + wrong, () -> x.forecast(5, wrong));
        }
        for (int wrong : new int[] {-1, 1441, Integer.MAX_VALUE, Integer.MIN_VALUE}) {
            Check.badArgument(x, "forecast after " + wrong, () -> x.forecast(wrong, 0));
        }
        for (int wrong : new int[] {-1, 3, Integer.MAX_VALUE, Integer.MIN_VALUE}) {
            Check.noStation(x, "runsOut of docks " + wrong, () -> x.runsOut(wrong, true));
            Check.noStation(x, "runsOut of bikes " + wrong, () -> x.runsOut(wrong, false));
        }
    }
}
