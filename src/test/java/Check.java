import java.util.ArrayList;
import java.util.Arrays;
import java.util.List;

/** What the tests share: answers that are due, exceptions that are due, and cities from texts. */
final class Check {
    private static int wrong = 0;
    private static int looked = 0;

    interface Call {
        long answer();
    }

    private Check() {
    }

    static void due(String what, long got, long want) {
        looked++;
        if (got != want) {
            wrong++;
            System.out.println(what + " answered " + got + ", due is " + want);
        }
    }

    static void due(String what, boolean got, boolean want) {
        due(what, got ? 1 : 0, want ? 1 : 0);
    }

    static void due(String what, int[] got, int... want) {
        looked++;
        if (!Arrays.equals(got, want)) {
            wrong++;
            System.out.println(what + " answered " + Arrays.toString(got)
                    + ", due is " + Arrays.toString(want));
        }
    }

    /** The call must throw exactly this exception, and leave all that can be asked as it was. */
    static void refused(BikeShare x, String what, Class<?> kind, Call call) {
        looked++;
        List<Integer> before = everything(x);
        String got = "nothing";
        try {
            call.answer();
        } catch (RuntimeException e) {
            got = e.getClass().getSimpleName();
        }
        if (!got.equals(kind.getSimpleName())) {
            wrong++;
            System.out.println(what + " threw " + got + ", due is " + kind.getSimpleName());
        }
        if (!everything(x).equals(before)) {
            wrong++;
            System.out.println(what + " changed something although it threw " + got);
        }
    }

    static void noStation(BikeShare x, String what, Call call) {
        refused(x, what, IndexOutOfBoundsException.class, call);
    }

    static void badArgument(BikeShare x, String what, Call call) {
        refused(x, what, IllegalArgumentException.class, call);
    }

    static void badState(BikeShare x, String what, Call call) {
        refused(x, what, IllegalStateException.class, call);
    }

    static void end(String test) {
        System.out.println(test + ": " + looked + " looks, " + wrong + " wrong");
        if (wrong != 0) {
            System.exit(1);
        }
    }

    /** Appends a text, filled up with zeros, in front of which nothing may stand in the buffer. */
    static int put(BikeShare x, String text) {
        int length = 0;
        for (int at = 0; at < text.length(); at += 20) {
            int[] words = new int[5];
            for (int i = 0; i < 20; i++) {
                int sign = at + i < text.length() ? text.charAt(at + i) : 0;
                words[i / 4] = words[i / 4] << 8 | sign & 255;
            }
            length = x.append(words[0], words[1], words[2], words[3], words[4]);
        }
        return length;
    }

    static int parse(BikeShare x, String text) {
        put(x, text);
        return x.parse(text.length());
    }

    static BikeShare city(String text) {
        BikeShare x = new BikeShare();
        int answer = parse(x, text);
        if (answer < 0) {
            wrong++;
            System.out.println("no city (" + answer + "): " + text);
        }
        return x;
    }

    static int[] tour(BikeShare x, int truck) {
        int[] stops = new int[9];
        int count = 0;
        while (count < 9 && x.tourStop(truck, count) != BikeShare.NONE) {
            stops[count] = x.tourStop(truck, count);
            count++;
        }
        return Arrays.copyOf(stops, count);
    }

    /** Every answer that an object gives without being changed. */
    static List<Integer> everything(BikeShare x) {
        List<Integer> all = new ArrayList<>();
        for (int what = 0; what < 3; what++) {
            all.add(x.size(what));
        }
        all.add(x.time());
        all.add(x.fleet());
        all.add(x.imbalance());
        all.add(x.busiestPair());
        for (int what = 0; what < 6; what++) {
            all.add(x.total(what));
            all.add(x.forecast(1440, what));
        }
        for (int i = 0; i < x.size(0); i++) {
            everythingOfStation(x, i, all);
        }
        all.add(x.riders());
        for (int i = 0; i < x.riders(); i++) {
            for (int what = 0; what < 3; what++) {
                all.add(x.rider(i, what));
            }
        }
        for (int i = 0; i < x.size(1); i++) {
            for (int what = 0; what < 6; what++) {
                all.add(x.truck(i, what));
            }
        }
        return all;
    }

    private static void everythingOfStation(BikeShare x, int station, List<Integer> all) {
        all.add(x.bikes(station));
        all.add(x.freeDocks(station));
        all.add(x.brokenDocks(station));
        all.add(x.isBalanced(station) ? 1 : 0);
        all.add(x.nearest(station, true));
        all.add(x.nearest(station, false));
        all.add(x.bonusAt(station));
        all.add(x.bestDeal(station));
        all.add(x.runsOut(station, true));
        all.add(x.runsOut(station, false));
        for (int to = 0; to < x.size(0); to++) {
            all.add(x.rideMinutes(station, to));
            all.add(x.quote(station, to));
            all.add(x.ridesBetween(station, to));
        }
    }
}
