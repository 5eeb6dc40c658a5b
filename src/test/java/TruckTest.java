/** Promises 21 to 23 and the orders of trucks: truck, tourMinutes, tourStop. */
public final class TruckTest {
    private TruckTest() {
    }

    public static void main(String[] args) {
        parked();
        driving();
        ordersAtOnce();
        queue();
        fullQueue();
        carryOut();
        trucksBeforeRiders();
        trucksByNumber();
        noTourNeeded();
        shortTours();
        helpers();
        noTour();
        ties();
        longTour();
        oneAfterAnother();
        wrongCalls();
        Check.end("TruckTest");
    }

    private static int[] truck(BikeShare x, int truck) {
        int[] all = new int[6];
        for (int what = 0; what < 6; what++) {
            all[what] = x.truck(truck, what);
        }
        return all;
    }

    private static void parked() {
        BikeShare x = Check.city("station 0 0 4 2;station 5 5 4 2;truck 1 3;truck 0 20;truck 1 1;");
        Check.due("truck 0", truck(x, 0), 1, -1, -1, 0, 3, 0);
        Check.due("truck 1", truck(x, 1), 0, -1, -1, 0, 20, 0);
        Check.due("truck 2", truck(x, 2), 1, -1, -1, 0, 1, 0);
    }

    private static void driving() {
        BikeShare x = Check.city("pace 0 7;station 0 0 4 2;station 3 4 4 2;truck 0 3;");
        x.pass(3);
        Check.due("the queue is empty as it drives off", x.dispatch(0, 1, 0), 0);
        Check.due("drives, 49 / 10 rounded down", truck(x, 0), -1, 1, 8, 0, 3, 0);
        x.pass(4);
        Check.due("drives still", truck(x, 0), -1, 1, 8, 0, 3, 0);
        Check.due("nothing done yet", x.bikes(1), 2);
        x.pass(1);
        Check.due("is there", truck(x, 0), 1, -1, -1, 2, 3, 0);
        Check.due("has taken them", x.bikes(1), 0);
    }

    private static void ordersAtOnce() {
        BikeShare x = Check.city("station 0 0 4 2;station 3 4 4 2;truck 0 3;");
        Check.due("done at once", x.dispatch(0, 0, 1), 0);
        Check.due("one taken", truck(x, 0), 0, -1, -1, 1, 3, 0);
        Check.due("one left", x.bikes(0), 1);
        Check.due("again", x.dispatch(0, 0, 2), 0);
        Check.due("put back", x.bikes(0), 2);
        Check.due("as many as the target: nothing to do", x.dispatch(0, 0, 2), 0);
        Check.due("empty", x.total(5), 0);
        x.dispatch(0, 0, 3);
        Check.due("nothing to put", x.bikes(0), 2);
        Check.due("no time passed", x.time(), 0);
    }

    private static void queue() {
        BikeShare x = Check.city("pace 10 10;station 0 0 20 10;station 3 0 20 0;station 9 0 20 0;truck 0 20;");
        x.dispatch(0, 0, 2);
        Check.due("first", x.dispatch(0, 1, 3), 0);
        Check.due("second", x.dispatch(0, 1, 4), 1);
        Check.due("third", x.dispatch(0, 1, 2), 2);
        Check.due("fourth", x.dispatch(0, 2, 20), 3);
        Check.due("fifth", x.dispatch(0, 0, 0), 4);
        x.pass(4);
        Check.due("three done at 1, then on to 2", truck(x, 0), -1, 2, 11, 6, 20, 1);
        Check.due("bikes at 1", x.bikes(1), 2);
        x.pass(7);
        Check.due("back to 0", truck(x, 0), -1, 0, 21, 0, 20, 0);
        Check.due("bikes at 2", x.bikes(2), 6);
        x.pass(10);
        Check.due("all done", truck(x, 0), 0, -1, -1, 2, 20, 0);
    }

    private static void fullQueue() {
        BikeShare x = Check.city("pace 10 10;station 0 0 20 10;station 3 0 20 0;truck 0 20;");
        x.dispatch(0, 1, 0);
        int[][] orders = {{1, 5}, {0, 7}, {1, 3}, {0, 9}, {1, 6}, {0, 4}};
        for (int[] order : orders) {
            x.dispatch(0, order[0], order[1]);
        }
        int[][] bikes = {{10, 0}, {7, 0}, {7, 3}, {7, 3}, {7, 3}, {4, 3}};
        for (int i = 0; i < 6; i++) {
            x.pass(4);
            Check.due("at 0 after way " + i, x.bikes(0), bikes[i][0]);
            Check.due("at 1 after way " + i, x.bikes(1), bikes[i][1]);
        }
        Check.due("all done", truck(x, 0), 0, -1, -1, 3, 20, 0);
    }

    private static void carryOut() {
        BikeShare x = Check.city("station 0 0 20 15;station 0 0 6 0;truck 0 8;pace 0 0;");
        x.dispatch(0, 0, 0);
        Check.due("until it is full", x.truck(0, 3), 8);
        Check.due("the rest stays", x.bikes(0), 7);
        x.breakDock(1);
        x.dispatch(0, 1, 20);
        x.pass(1);
        Check.due("until there is no free dock", x.bikes(1), 5);
        Check.due("the rest stays on the truck", x.truck(0, 3), 3);
        x.removeBikes(1, 5);
        x.dispatch(0, 1, 4);
        Check.due("until it has no more", x.bikes(1), 3);
        Check.due("none left", x.truck(0, 3), 0);
        x.dispatch(0, 1, 1);
        Check.due("until there are as many", x.truck(0, 3), 2);
        x.dispatch(0, 1, 2);
        Check.due("one more than there is", x.truck(0, 3), 1);
        x.addBikes(1, 3);
        x.addBikes(0, 10);
        x.dispatch(0, 0, 0);
        x.pass(1);
        Check.due("it holds one already", x.truck(0, 3), 8);
        Check.due("so it takes seven", x.bikes(0), 10);
    }

    private static void trucksBeforeRiders() {
        BikeShare x = Check.city("pace 10 10;station 0 0 4 4;station 5 0 2 2;truck 0 4;trip 1 1 6;");
        x.rent(0, 1);
        x.dispatch(0, 1, 0);
        Check.due("the truck makes place for the rider", x.pass(6), 1);
        Check.due("nobody was turned away", x.total(4), 0);
        Check.due("then the trip takes the bike", x.bikes(1), 0);
        Check.due("no trip was lost", x.total(3), 0);
    }

    private static void trucksByNumber() {
        BikeShare x = Check.city("pace 10 10;station 0 0 4 0;station 5 0 4 3;truck 0 2;truck 0 2;");
        x.dispatch(1, 1, 0);
        x.dispatch(0, 1, 0);
        x.pass(6);
        Check.due("truck 0 first", x.truck(0, 3), 2);
        Check.due("truck 1 then", x.truck(1, 3), 1);
    }

    private static void tour(String what, BikeShare x, int minutes, int... stops) {
        Check.due(what, x.tourMinutes(0), minutes);
        Check.due(what, Check.tour(x, 0), stops);
        Check.due(what + ", no stop behind the last", x.tourStop(0, stops.length), -1);
        Check.due(what + ", stop -1", x.tourStop(0, -1), -1);
        Check.due(what + ", stop 8", x.tourStop(0, 8), -1);
        Check.due(what + ", stop MAX", x.tourStop(0, Integer.MAX_VALUE), -1);
    }

    private static void noTourNeeded() {
        tour("all balanced", Check.city("station 0 0 10 5;station 5 0 10 5;truck 0 3;"), 0);
    }

    private static void shortTours() {
        String end = "pace 10 10;balance 20;truck 0 5;";
        tour("where it is parked", Check.city("station 0 0 10 9;station 5 0 10 5;" + end), 0, 0);
        tour("elsewhere", Check.city("station 0 0 10 5;station 5 0 10 9;" + end), 6, 1);
        tour("here, then there", Check.city("station 0 0 10 9;station 5 0 10 1;" + end), 6, 0, 1);
        tour("there, then here", Check.city("station 0 0 10 1;station 5 0 10 9;" + end), 12, 1, 0);
        tour("another at the same place", Check.city("station 0 0 10 5;station 0 0 10 9;" + end), 1, 1);
        BikeShare x = Check.city("station 0 0 10 5;station 5 0 10 1;" + end);
        x.dispatch(0, 0, 4);
        tour("with what it carries", x, 6, 1);
        BikeShare full = Check.city("station 0 0 10 5;station 5 0 10 9;station 7 0 10 3;truck 0 1;pace 10 10;");
        full.dispatch(0, 0, 4);
        tour("a full truck must put first", full, 6, 0, 1);
    }

    private static void helpers() {
        tour("a balanced station gives", Check.city("pace 0 10;station 0 0 10 2;station 5 0 10 1;station 5 5 10 5;"
                + "truck 0 5;"), 11 + 6, 2, 1);
        tour("a balanced station takes", Check.city("pace 0 10;station 0 0 10 5;station 5 0 10 10;station 9 0 10 2;"
                + "truck 0 1;balance 10;"), 6, 1);
        tour("two must give", Check.city("pace 0 10;balance 20;station 0 0 10 3;station 1 0 10 3;station 2 0 10 0;"
                + "truck 0 5;"), 4, 0, 1, 2);
        tour("the capacity is too small for two at once", Check.city("pace 0 10;balance 20;station 0 0 10 10;"
                + "station 1 0 10 10;station 2 0 10 0;truck 0 2;"), 5, 0, 2, 1);
    }

    private static void noTour() {
        String end = "pace 10 10;truck 0 5;";
        tour("too few bikes", Check.city("station 0 0 10 0;station 5 0 10 1;" + end), -1);
        tour("too few docks", Check.city("station 0 0 10 10;station 5 0 10 9;truck 0 2;"), -1);
        tour("too small a truck", Check.city("balance 50;station 0 0 10 10;station 5 0 10 0;truck 0 4;"), -1);
        tour("just large enough", Check.city("balance 50;station 0 0 10 10;station 5 0 10 0;truck 0 5;"), 3, 0, 1);
        tour("eight without bikes", Check.city("station 0 0 20 0;".repeat(8) + end), -1);
        tour("eight in vain", Check.city("station 0 0 20 4;".repeat(7) + "station 0 0 20 3;" + end), -1);
    }

    private static void ties() {
        tour("the first of two ways round", Check.city("pace 0 10;station 5 0 10 5;station 0 0 10 10;station 10 0 10 10;"
                + "truck 0 20;"), 6 + 11, 1, 2);
        tour("fewest stops at equal minutes", Check.city("pace 0 0;station 0 0 10 5;station 1 0 10 1;station 5 0 10 9;"
                + "truck 0 9;"), 2, 2, 1);
        // The stop where the truck is parked costs nothing: the same minutes, but a stop more.
        BikeShare x = Check.city("pace 0 10;station 0 0 10 5;station 9 0 10 1;truck 0 9;");
        x.dispatch(0, 0, 4);
        tour("no needless stop", x, 10, 1);
        tour("a free stop to take from", Check.city("pace 0 10;station 0 0 10 5;station 9 0 10 1;truck 0 9;"), 10, 0, 1);
        tour("the lowest helper of equal ones", Check.city("pace 0 0;station 0 0 10 2;station 5 5 10 5;station 9 0 10 5;"
                + "station 7 7 10 1;truck 0 9;"), 2, 1, 3);
    }

    private static void longTour() {
        // Every second station is full, the others are empty, and the truck holds what one gives.
        String text = "pace 0 10;balance 50;station 0 0 4 4;station 1 0 4 0;station 2 0 4 4;station 3 0 4 0;"
                + "station 4 0 4 4;station 5 0 4 0;station 6 0 4 4;station 7 0 4 0;truck 0 2;";
        tour("all eight", Check.city(text), 14, 0, 1, 2, 3, 4, 5, 6, 7);
        tour("all eight from the other end", Check.city(text.replace("truck 0", "truck 7")), 22, 0, 1, 2, 3, 4, 5, 6, 7);
    }

    /** Each search begins anew, whatever was asked before it. */
    private static void oneAfterAnother() {
        BikeShare x = Check.city("pace 0 10;station 0 0 10 9;station 5 0 10 5;truck 0 5;truck 1 5;");
        Check.due("the first stop before the minutes are asked", x.tourStop(0, 0), 0);
        Check.due("the first stop of the other", x.tourStop(1, 0), 0);
        Check.due("the minutes of the other", x.tourMinutes(1), 6);
        Check.due("no second stop", x.tourStop(0, 1), -1);
        x.removeBikes(0, 4);
        Check.due("no stop now", x.tourStop(0, 0), -1);
        Check.due("no minutes now", x.tourMinutes(1), 0);
        x.removeBikes(0, 5);
        x.removeBikes(1, 5);
        Check.due("no tour now", x.tourMinutes(0), -1);
        Check.due("no stop of it", x.tourStop(1, 0), -1);
        x.addBikes(1, 10);
        Check.due("a tour again", Check.tour(x, 0), 1, 0);
        Check.due("its minutes", x.tourMinutes(0), 12);
        Check.due("its stops for the other", Check.tour(x, 1), 1, 0);
        Check.due("its minutes", x.tourMinutes(1), 6);
    }

    private static void wrongCalls() {
        BikeShare x = Check.city("station 0 0 4 2;station 5 5 4 2;truck 0 4;truck 0 4;");
        x.dispatch(1, 1, 2);
        for (int t : new int[] {-1, 2, 3, Integer.MAX_VALUE, Integer.MIN_VALUE}) {
            Check.noStation(x, "truck " + t, () -> x.truck(t, 0));
            Check.noStation(x, "truck first " + t, () -> x.truck(t, 6));
            Check.noStation(x, "tourMinutes " + t, () -> x.tourMinutes(t));
            Check.noStation(x, "tourStop " + t, () -> x.tourStop(t, 0));
        }
        Check.badArgument(x, "truck what -1", () -> x.truck(0, -1));
        Check.badArgument(x, "truck what 6", () -> x.truck(0, 6));
        Check.badState(x, "tourMinutes of one that drives", () -> x.tourMinutes(1));
        Check.badState(x, "tourStop of one that drives", () -> x.tourStop(1, 0));
        Check.badState(x, "tourStop of one that drives, no stop", () -> x.tourStop(1, -1));
        x.pass(1440);
        Check.due("parked again", x.tourMinutes(1), 0);
    }
}
