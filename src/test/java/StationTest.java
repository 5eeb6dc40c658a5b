/** Promises 7 to 12: bikes, freeDocks, brokenDocks, isBalanced, imbalance, nearest. */
public final class StationTest {
    private StationTest() {
    }

    public static void main(String[] args) {
        docks();
        balance();
        imbalance();
        nearest();
        noSuchStation();
        Check.end("StationTest");
    }

    private static void docks() {
        BikeShare x = Check.city("station 0 0 20 7;station 5 5 3 3;");
        Check.due("bikes", x.bikes(0), 7);
        Check.due("free", x.freeDocks(0), 13);
        Check.due("none free", x.freeDocks(1), 0);
        Check.due("none broken", x.brokenDocks(0), 0);
        x.breakDock(0);
        x.breakDock(0);
        Check.due("two broken", x.brokenDocks(0), 2);
        Check.due("of the other none", x.brokenDocks(1), 0);
        Check.due("free then", x.freeDocks(0), 11);
        Check.due("bikes as before", x.bikes(0), 7);
        x.rent(1, 0);
        Check.due("a bike has left its dock", x.bikes(1), 2);
        Check.due("which is free", x.freeDocks(1), 1);
        x.pass(10);
        Check.due("it is not there yet", x.bikes(0), 7);
        x.pass(1);
        Check.due("it is there", x.bikes(0), 8);
        Check.due("in a free dock", x.freeDocks(0), 10);
    }

    private static void balance() {
        BikeShare x = Check.city("balance 30;station 0 0 10 3;station 0 0 10 2;station 0 0 10 7;station 0 0 10 8;"
                + "station 0 0 3 0;station 0 0 4 1;station 0 0 4 0;");
        Check.due("as many bikes as the mark", x.isBalanced(0), true);
        Check.due("one bike less", x.isBalanced(1), false);
        Check.due("as many docks as the mark", x.isBalanced(2), true);
        Check.due("one dock less", x.isBalanced(3), false);
        Check.due("the mark is rounded down to 0", x.isBalanced(4), true);
        Check.due("the mark is rounded down to 1", x.isBalanced(5), true);
        Check.due("one missing to 1", x.isBalanced(6), false);
        x.breakDock(1);
        Check.due("9 working docks want 2", x.isBalanced(1), true);
        x.breakDock(2);
        Check.due("2 free docks of 9", x.isBalanced(2), true);
        x.breakDock(2);
        Check.due("1 free dock of 8", x.isBalanced(2), false);
        BikeShare half = Check.city("balance 50;station 0 0 7 3;station 0 0 8 4;station 0 0 8 3;station 0 0 8 5;");
        Check.due("3 and 4 of 7", half.isBalanced(0), true);
        Check.due("4 and 4 of 8", half.isBalanced(1), true);
        Check.due("3 and 5 of 8", half.isBalanced(2), false);
        Check.due("5 and 3 of 8", half.isBalanced(3), false);
        BikeShare third = Check.city("balance 33;station 0 0 3 0;station 0 0 6 1;station 0 0 20 6;");
        Check.due("33 percent of 3", third.isBalanced(0), true);
        Check.due("33 percent of 6", third.isBalanced(1), true);
        Check.due("33 percent of 20", third.isBalanced(2), true);
        BikeShare zero = Check.city("balance 0;station 0 0 7 0;station 0 0 7 7;");
        Check.due("no mark, no bike", zero.isBalanced(0), true);
        Check.due("no mark, no dock", zero.isBalanced(1), true);
    }

    private static void imbalance() {
        BikeShare x = Check.city("balance 30;station 0 0 10 0;station 0 0 10 9;station 0 0 10 5;");
        Check.due("3 bikes and 2 docks are missing, and no surplus counts", x.imbalance(), 5);
        x.rent(1, 1);
        Check.due("1 dock fewer is missing", x.imbalance(), 4);
        x.breakDock(0);
        Check.due("1 bike fewer is missing", x.imbalance(), 3);
        Check.due("all balanced", Check.city("station 0 0 10 5;").imbalance(), 0);
    }

    private static void nearest() {
        BikeShare x = Check.city("pace 0 0;station 10 10 4 2;station 13 13 4 0;station 10 5 4 4;station 15 10 4 4;"
                + "station 10 10 1 1;station 99 99 9 1;");
        Check.due("a dock: not itself, not the full ones", x.nearest(0, true), 1);
        Check.due("a bike at no distance", x.nearest(0, false), 4);
        Check.due("a dock for 4", x.nearest(4, true), 0);
        Check.due("a bike for 5", x.nearest(5, false), 3);
        Check.due("a dock for 5", x.nearest(5, true), 1);
        x.removeBikes(4, 1);
        Check.due("of two as near the lower", x.nearest(0, false), 2);
        x.removeBikes(2, 4);
        Check.due("the distance adds both differences", x.nearest(0, true), 4);
        x.breakDock(4);
        Check.due("a broken dock is not free", x.nearest(0, true), 2);
        BikeShare none = Check.city("station 0 0 4 2;station 9 9 4 4;station 9 9 2 2;");
        Check.due("no other dock", none.nearest(0, true), -1);
        BikeShare bare = Check.city("station 0 0 4 2;station 9 9 4 0;");
        Check.due("no other bike", bare.nearest(0, false), -1);
        Check.due("alone", Check.city("station 0 0 4 2;").nearest(0, true), -1);
        Check.due("alone", Check.city("station 0 0 4 2;").nearest(0, false), -1);
    }

    private static void noSuchStation() {
        BikeShare x = Check.city("station 0 0 4 2;station 5 5 4 2;");
        for (int station : new int[] {-1, 2, 8, Integer.MAX_VALUE, Integer.MIN_VALUE}) {
            Check.noStation(x, "bikes of " + station, () -> x.bikes(station));
            Check.noStation(x, "freeDocks of " + station, () -> x.freeDocks(station));
            Check.noStation(x, "brokenDocks of " + station, () -> x.brokenDocks(station));
            Check.noStation(x, "isBalanced of " + station, () -> x.isBalanced(station) ? 1 : 0);
            Check.noStation(x, "nearest dock of " + station, () -> x.nearest(station, true));
            Check.noStation(x, "nearest bike of " + station, () -> x.nearest(station, false));
        }
    }
}
