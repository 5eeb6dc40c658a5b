import java.util.Random;

/** Tours of cities by fixed seeds, in which most stations are not balanced, compared with the model's. */
public final class TourRunsTest {
    private static final int CITIES = 6000;
    private static final int LARGE_CITIES = 6;
    // One object sees several cities, with fewer than 512 calls.
    private static final int CITIES_OF_AN_OBJECT = 8;
    private static BikeShare share = new BikeShare();

    private TourRunsTest() {
    }

    public static void main(String[] args) {
        long first = args.length > 0 ? Long.parseLong(args[0]) : 1;
        long count = args.length > 1 ? Long.parseLong(args[1]) : CITIES;
        int tours = 0;
        for (long seed = first; seed < first + count; seed++) {
            Random random = new Random(seed);
            if (seed % CITIES_OF_AN_OBJECT == 0) {
                share = new BikeShare();
            }
            tours += compare("seed " + seed, random, 2 + random.nextInt(5));
        }
        share = new BikeShare();
        for (long seed = first; seed < first + LARGE_CITIES; seed++) {
            tours += compare("large seed " + seed, new Random(-seed), 7 + (int) (seed % 6 / 5));
        }
        System.out.println("TourRunsTest: " + tours + " tours");
        Check.due("some cities have a tour, some have none", tours > count / 4 && tours < count, true);
        Check.end("TourRunsTest");
    }

    private static int compare(String what, Random random, int stations) {
        String text = city(random, stations);
        Check.due(what, Check.parse(share, text), stations);
        Model model = new Model();
        model.buffer.append(text);
        model.parse(text.length());
        // Orders at the station where it is parked give the truck a load.
        int target = random.nextInt(21);
        share.dispatch(0, share.truck(0, 0), target);
        model.dispatch(0, model.truck(0, 0), target);
        Model.Best best = model.bestTour(0);
        int[] stops = best == null ? new int[0] : best.stops().stream().mapToInt(Integer::intValue).toArray();
        Check.due(what + ", target " + target + ": " + text, share.tourMinutes(0), best == null ? -1 : best.minutes());
        Check.due(what + ", target " + target + ": " + text, Check.tour(share, 0), stops);
        return best == null ? 0 : 1;
    }

    private static String city(Random random, int stations) {
        int span = new int[] {3, 10, 40, 100}[random.nextInt(4)];
        int docks = new int[] {3, 6, 12, 20}[random.nextInt(4)];
        StringBuilder text = new StringBuilder();
        text.append("pace 0 ").append(new int[] {0, 3, 5, 10, 99}[random.nextInt(5)]).append(';');
        text.append("balance ").append(random.nextBoolean() ? 50 : 10 + random.nextInt(41)).append(';');
        for (int i = 0; i < stations; i++) {
            int all = 2 + random.nextInt(docks - 1);
            int bikes = random.nextInt(3) > 0 ? random.nextBoolean() ? all : 0 : random.nextInt(all + 1);
            text.append("station ").append(random.nextInt(span)).append(' ').append(random.nextInt(span)).append(' ')
                    .append(all).append(' ').append(bikes).append(';');
        }
        text.append("truck ").append(random.nextInt(stations)).append(' ').append(1 + random.nextInt(docks)).append(';');
        return text.toString();
    }
}
