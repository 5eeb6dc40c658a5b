import java.util.Random;

/** Runs of calls by fixed seeds: every answer of the class must be that of the model. */
public final class ModelRunsTest {
    private static final int CALLS = 36;
    private static int wrongRuns = 0;

    private final Random random;
    private final BikeShare share = new BikeShare();
    private final Model model = new Model();
    private final StringBuilder log = new StringBuilder();
    private int stations = 0;
    private int trucks = 0;
    private int calls = 0;
    private boolean wrong = false;
    // Calls that this run prefers, so that some runs fill queues, docks or the road.
    private final int[] mood = new int[3];
    private int longest = 1440;

    private ModelRunsTest(long seed) {
        random = new Random(seed);
    }

    public static void main(String[] args) {
        long first = args.length > 0 ? Long.parseLong(args[0]) : 1;
        long count = args.length > 1 ? Long.parseLong(args[1]) : 300;
        long looks = 0;
        for (long seed = first; seed < first + count && wrongRuns < 5; seed++) {
            ModelRunsTest run = new ModelRunsTest(seed);
            run.play();
            looks += run.calls;
            if (run.wrong) {
                wrongRuns++;
                System.out.println("seed " + seed + ":\n" + run.log);
            }
        }
        System.out.println("ModelRunsTest: " + looks + " looks, " + wrongRuns + " wrong runs");
        if (wrongRuns != 0) {
            System.exit(1);
        }
    }

    private void play() {
        int length = 20 + random.nextInt(480);
        int newCity = 3 + random.nextInt(400);
        for (int i = 0; i < mood.length; i++) {
            mood[i] = random.nextInt(CALLS);
        }
        longest = random.nextBoolean() ? 1443 : 12;
        readCity();
        while (calls < length && !wrong) {
            if (random.nextInt(newCity) == 0) {
                readCity();
            } else {
                call(random.nextInt(3) == 0 ? mood[random.nextInt(mood.length)] : random.nextInt(CALLS));
            }
        }
    }

    private void readCity() {
        CityTexts texts = new CityTexts(random);
        String text = random.nextInt(4) == 0 ? texts.spoiled() : texts.good();
        for (int at = 0; at < text.length() && at < 700; at += 20) {
            int[] w = new int[5];
            for (int i = 0; i < 20; i++) {
                w[i / 4] = w[i / 4] << 8 | (at + i < text.length() ? text.charAt(at + i) : 0) & 255;
            }
            both("append", () -> share.append(w[0], w[1], w[2], w[3], w[4]), () -> model.append(w));
        }
        int length = random.nextInt(20) == 0 ? random.nextInt(760) - 20 : Math.min(text.length(), 700);
        both("parse(" + length + ") of " + text, () -> share.parse(length), () -> model.parse(length));
        stations = model.city.stations.size();
        trucks = model.city.trucks.size();
    }

    private int about(int count) {
        if (count == 0 || random.nextInt(60) == 0) {
            return random.nextBoolean() ? -1 : random.nextBoolean() ? count : random.nextInt();
        }
        return random.nextInt(count);
    }

    private int minutes() {
        int[] kinds = {1 + random.nextInt(3), 1 + random.nextInt(30), 1 + random.nextInt(200), random.nextInt(longest) - 1};
        return kinds[random.nextInt(4)];
    }

    private void call(int which) {
        int s = about(stations);
        int to = about(stations);
        int t = about(trucks);
        int n = random.nextInt(8) == 0 ? random.nextInt(23) - 1 : random.nextInt(6);
        boolean b = random.nextBoolean();
        int m = minutes();
        String a = "(" + s + ", " + to + ", truck " + t + ", n " + n + ", " + b + ", minutes " + m + ")";
        switch (which) {
            case 0 -> both("size" + a, () -> share.size(n), () -> model.size(n));
            case 1 -> both("time", share::time, () -> model.world.time);
            case 2 -> both("fleet", share::fleet, model::fleet);
            case 3 -> both("bikes" + a, () -> share.bikes(s), () -> model.bikes(s));
            case 4 -> both("freeDocks" + a, () -> share.freeDocks(s), () -> model.freeDocks(s));
            case 5 -> both("brokenDocks" + a, () -> share.brokenDocks(s), () -> model.brokenDocks(s));
            case 6 -> both("isBalanced" + a, () -> number(share.isBalanced(s)), () -> number(model.isBalanced(s)));
            case 7 -> both("imbalance", share::imbalance, model::imbalance);
            case 8 -> both("nearest" + a, () -> share.nearest(s, b), () -> model.nearest(s, b));
            case 9 -> both("rideMinutes" + a, () -> share.rideMinutes(s, to), () -> model.rideMinutes(s, to));
            case 10 -> both("quote" + a, () -> share.quote(s, to), () -> model.quote(s, to));
            case 11 -> both("bonusAt" + a, () -> share.bonusAt(s), () -> model.bonusAt(s));
            case 12 -> both("bestDeal" + a, () -> share.bestDeal(s), () -> model.bestDeal(s));
            case 13 -> both("riders", share::riders, model::riders);
            case 14 -> {
                int r = about(model.riders());
                int what = random.nextInt(30) == 0 ? n : random.nextInt(3);
                both("rider " + r + ", " + what, () -> share.rider(r, what), () -> model.rider(r, what));
            }
            case 15 -> both("ridesBetween" + a, () -> share.ridesBetween(s, to), () -> model.ridesBetween(s, to));
            case 16 -> both("busiestPair", share::busiestPair, model::busiestPair);
            case 17 -> both("truck" + a, () -> share.truck(t, n), () -> model.truck(t, n));
            case 18, 19 -> tour(t, n);
            case 20 -> both("total" + a, () -> share.total(n), () -> model.total(n));
            case 21 -> both("forecast" + a, () -> share.forecast(m, n), () -> model.forecast(m, n));
            case 22 -> both("runsOut" + a, () -> share.runsOut(s, b), () -> model.runsOut(s, b));
            default -> change(which, a, s, to, t, n, m);
        }
    }

    private void tour(int t, int n) {
        // The model's search is slow, so large cities are asked less often.
        if (stations < 7 || random.nextInt(8) == 0) {
            both("tourMinutes " + t, () -> share.tourMinutes(t), () -> model.tourMinutes(t));
            both("tourStop " + t + ", " + n, () -> share.tourStop(t, n), () -> model.tourStop(t, n));
        }
    }

    private void change(int which, String a, int s, int to, int t, int n, int m) {
        switch (which) {
            case 23, 24 -> both("pass" + a, () -> share.pass(m), () -> model.pass(m));
            case 25, 26 -> both("rent" + a, () -> share.rent(s, to), () -> model.rent(s, to));
            case 27, 28 -> both("dispatch" + a, () -> share.dispatch(t, s, n), () -> model.dispatch(t, s, n));
            case 29 -> both("cancel" + a, () -> share.cancel(t), () -> model.cancel(t));
            case 30 -> both("breakDock" + a, () -> share.breakDock(s), () -> model.breakDock(s));
            case 31 -> both("repairDock" + a, () -> share.repairDock(s), () -> model.repairDock(s));
            case 32 -> both("addBikes" + a, () -> share.addBikes(s, n), () -> model.addBikes(s, n));
            case 33 -> both("removeBikes" + a, () -> share.removeBikes(s, n), () -> model.removeBikes(s, n));
            case 34 -> both("undo", share::undo, model::undo);
            default -> {
                int slot = random.nextInt(4) - 1;
                if (random.nextInt(3) > 0) {
                    both("saveSnapshot " + slot, () -> number(share.saveSnapshot(slot)),
                            () -> number(model.saveSnapshot(slot)));
                } else {
                    both("restoreSnapshot " + slot, () -> number(share.restoreSnapshot(slot)),
                            () -> number(model.restoreSnapshot(slot)));
                }
            }
        }
    }

    private static int number(boolean answer) {
        return answer ? 1 : 0;
    }

    private void both(String what, Check.Call got, Check.Call due) {
        if (wrong) {
            return;
        }
        calls++;
        String is = answer(got);
        String want = answer(due);
        log.append(what).append(" = ").append(is).append('\n');
        if (!is.equals(want)) {
            wrong = true;
            log.append("  but due is ").append(want).append('\n');
        }
    }

    private static String answer(Check.Call call) {
        try {
            return Long.toString(call.answer());
        } catch (RuntimeException e) {
            return e.getClass().getName();
        }
    }
}
