import java.util.Random;

/** Far more calls than 512 on one object, with any arguments: only the document's exceptions come. */
public final class EnduranceTest {
    private static final int CALLS = 20000;

    private EnduranceTest() {
    }

    public static void main(String[] args) {
        for (int seed = 1; seed <= 12; seed++) {
            Random random = new Random(seed);
            BikeShare x = new BikeShare();
            Check.parse(x, new CityTexts(random).good());
            // Some objects are given bikes and rides only, so that rides pile up beyond every limit.
            boolean ridesOnly = seed % 3 == 0;
            for (int i = 0; i < CALLS; i++) {
                int which = ridesOnly ? new int[] {12, 12, 12, 18}[random.nextInt(4)] : random.nextInt(24);
                call(x, which, random);
            }
            Check.due("bikes are where bikes can be", x.fleet() >= 0, true);
            Check.everything(x);
        }
        Check.end("EnduranceTest");
    }

    private static int any(Random random) {
        return random.nextInt(40) == 0 ? random.nextInt() : random.nextInt(9) - 1;
    }

    private static void call(BikeShare x, int which, Random random) {
        int a = any(random);
        int b = any(random);
        int c = any(random);
        String got = "";
        try {
            answer(x, which, a, b, c);
        } catch (RuntimeException e) {
            got = e.getClass().getSimpleName();
        }
        boolean fine = got.isEmpty() || got.equals("IndexOutOfBoundsException")
                || got.equals("IllegalArgumentException") || got.equals("IllegalStateException");
        Check.due("call " + which + " (" + a + ", " + b + ", " + c + ") threw " + got, fine, true);
    }

    private static long answer(BikeShare x, int which, int a, int b, int c) {
        switch (which) {
            case 0: return x.append(a, b, c, a, b);
            case 1: return c == 5 ? x.parse(20 * a) : x.size(a);
            case 2: return x.bikes(a) + x.freeDocks(b) + x.brokenDocks(c);
            case 3: return x.isBalanced(a) ? x.imbalance() : x.nearest(a, b > 3);
            case 4: return x.rideMinutes(a, b) + x.quote(a, b);
            case 5: return x.bonusAt(a) + x.bestDeal(b);
            case 6: return x.rider(a, b) + x.riders();
            case 7: return x.ridesBetween(a, b) + x.busiestPair();
            case 8: return x.truck(a, b);
            case 9: return x.tourMinutes(a) + x.tourStop(b, c);
            case 10: return x.total(a) + x.forecast(b, c);
            case 11: return x.runsOut(a, b > 3);
            case 12: case 13: return x.rent(a, b);
            case 14: return x.dispatch(a, b, c);
            case 15: return x.cancel(a);
            case 16: return x.breakDock(a);
            case 17: return x.repairDock(a);
            case 18: return x.addBikes(a, b);
            case 19: return x.removeBikes(a, b);
            case 20: return x.undo();
            case 21: return x.saveSnapshot(a) ? 1 : 0;
            case 22: return c == 5 && x.restoreSnapshot(a) ? 1 : 0;
            default: return x.pass(a);
        }
    }
}
