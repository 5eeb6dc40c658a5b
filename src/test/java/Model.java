import java.util.ArrayDeque;
import java.util.ArrayList;
import java.util.Comparator;
import java.util.Deque;
import java.util.List;
import java.util.Map;
import java.util.TreeMap;

/** The document once more, as slow and as literal as it can be, to compare the class with. */
final class Model {
    static final int NONE = -1;

    record Station(int x, int y, int docks, int bikes) { }

    record TruckPlan(int station, int capacity) { }

    record Trip(int from, int to, int minute) { }

    record Order(int station, int target) { }

    record Best(int minutes, List<Integer> stops) { }

    interface Sum {
        int value(Map<String, Integer> names);
    }

    static final class SyntaxError extends RuntimeException {
        private static final long serialVersionUID = 1L;
        final int offset;
        final int kind;

        SyntaxError(int offset, int kind) {
            this.offset = offset;
            this.kind = kind;
        }
    }

    static final class City {
        final List<Station> stations = new ArrayList<>();
        final List<TruckPlan> trucks = new ArrayList<>();
        final List<Trip> trips = new ArrayList<>();
        final Map<String, int[]> once = new TreeMap<>();
        Sum fare;

        int setting(String word, int place, int otherwise) {
            return once.containsKey(word) ? once.get(word)[place] : otherwise;
        }

        int distance(int a, int b) {
            Station p = stations.get(a);
            Station q = stations.get(b);
            return Math.abs(p.x - q.x) + Math.abs(p.y - q.y);
        }

        int rideMinutes(int a, int b) {
            return 1 + distance(a, b) * setting("pace", 0, 10) / 10;
        }

        int truckMinutes(int a, int b) {
            return 1 + distance(a, b) * setting("pace", 1, 5) / 10;
        }
    }

    /** Recursive descent over the tokens, each of which tells its offset. */
    static final class Parser {
        final List<String> tokens = new ArrayList<>();
        final List<Integer> offsets = new ArrayList<>();
        int at = 0;
        int open = 0;
        City city = new City();

        Parser(String text) {
            int i = 0;
            while (i < text.length()) {
                char c = text.charAt(i);
                if (c == ' ' || c == '\n') {
                    i++;
                    continue;
                }
                int j = i + 1;
                String kind = Character.toString(c).matches("[a-z]") ? "[a-z]"
                        : Character.toString(c).matches("[0-9]") ? "[0-9]" : "";
                while (!kind.isEmpty() && j < text.length() && text.substring(j, j + 1).matches(kind)) {
                    j++;
                }
                tokens.add(text.substring(i, j));
                offsets.add(i);
                i = j;
            }
            tokens.add("");
            offsets.add(text.length());
        }

        String peek() {
            return tokens.get(at);
        }

        SyntaxError error(int kind) {
            return new SyntaxError(offsets.get(at), kind);
        }

        City city() {
            while (!peek().isEmpty()) {
                statement();
                expect(";");
            }
            return city;
        }

        void expect(String token) {
            if (!peek().equals(token)) {
                throw error(1);
            }
            at++;
        }

        void statement() {
            String word = peek();
            switch (word) {
                case "station" -> {
                    limit(city.stations.size(), 8);
                    int x = number(0, 99);
                    int y = number(0, 99);
                    int docks = number(1, 20);
                    city.stations.add(new Station(x, y, docks, number(0, docks)));
                }
                case "truck" -> {
                    limit(city.trucks.size(), 3);
                    int station = number(0, city.stations.size() - 1);
                    city.trucks.add(new TruckPlan(station, number(1, 20)));
                }
                case "trip" -> {
                    limit(city.trips.size(), 30);
                    int from = number(0, city.stations.size() - 1);
                    int to = number(0, city.stations.size() - 1);
                    city.trips.add(new Trip(from, to, number(0, 1439)));
                }
                case "pace", "balance", "bonus", "fare" -> {
                    if (city.once.containsKey(word)) {
                        throw error(2);
                    }
                    at++;
                    city.once.put(word, switch (word) {
                        case "pace" -> new int[] {number(0, 99), number(0, 99)};
                        case "balance" -> new int[] {number(0, 50)};
                        case "bonus" -> new int[] {number(0, 100), number(0, 999)};
                        default -> new int[0];
                    });
                    if (word.equals("fare")) {
                        city.fare = sum();
                    }
                }
                default -> throw error(1);
            }
        }

        void limit(int count, int most) {
            if (count == most) {
                throw error(4);
            }
            at++;
        }

        int number(int least, int most) {
            if (!peek().matches("[0-9]{1,4}")) {
                throw error(1);
            }
            int value = Integer.parseInt(peek());
            if (value < least || value > most) {
                throw error(3);
            }
            at++;
            return value;
        }

        Sum sum() {
            Sum left = term();
            while (peek().equals("+") || peek().equals("-")) {
                boolean plus = peek().equals("+");
                at++;
                Sum a = left;
                Sum b = term();
                left = plus ? m -> a.value(m) + b.value(m) : m -> a.value(m) - b.value(m);
            }
            return left;
        }

        Sum term() {
            Sum left = factor();
            while (peek().equals("*") || peek().equals("/")) {
                boolean times = peek().equals("*");
                at++;
                Sum a = left;
                Sum b = factor();
                left = times ? m -> a.value(m) * b.value(m)
                        : m -> b.value(m) == 0 ? 0 : a.value(m) / b.value(m);
            }
            return left;
        }

        Sum factor() {
            String token = peek();
            if (token.equals("(")) {
                if (open == 5) {
                    throw error(4);
                }
                open++;
                at++;
                Sum inner = sum();
                expect(")");
                open--;
                return inner;
            }
            if (token.matches("[0-9]{1,4}")) {
                int value = number(0, 9999);
                return m -> value;
            }
            if (List.of("minutes", "bikes", "docks", "hour").contains(token)) {
                at++;
                return m -> m.get(token);
            }
            throw error(1);
        }
    }

    static final class Ride {
        int number;
        int from;
        int to;
        int target;
        int arrival;
        int status; // 0 on its way, 1 ended
        Ride copy() {
            Ride r = new Ride();
            r.number = number;
            r.from = from;
            r.to = to;
            r.target = target;
            r.arrival = arrival;
            r.status = status;
            return r;
        }
    }

    static final class Truck {
        int parked;
        int driving = NONE;
        int arrival = NONE;
        Order order;
        int load;
        int capacity;
        Deque<Order> queue = new ArrayDeque<>();

        Truck copy() {
            Truck t = new Truck();
            t.parked = parked;
            t.driving = driving;
            t.arrival = arrival;
            t.order = order;
            t.load = load;
            t.capacity = capacity;
            t.queue = new ArrayDeque<>(queue);
            return t;
        }
    }

    static final class World {
        int time;
        int[] bikes;
        int[] broken;
        List<Truck> trucks = new ArrayList<>();
        List<Ride> rides = new ArrayList<>();
        int fares;
        int bonuses;
        int lost;
        int turned;

        World copy() {
            World w = new World();
            w.time = time;
            w.bikes = bikes.clone();
            w.broken = broken.clone();
            trucks.forEach(t -> w.trucks.add(t.copy()));
            rides.forEach(r -> w.rides.add(r.copy()));
            w.fares = fares;
            w.bonuses = bonuses;
            w.lost = lost;
            w.turned = turned;
            return w;
        }
    }

    final StringBuilder buffer = new StringBuilder();
    City city = new City();
    World world;
    final Deque<World> history = new ArrayDeque<>();
    final World[] slots = new World[2];

    Model() {
        begin();
    }

    private void begin() {
        world = new World();
        int n = city.stations.size();
        world.bikes = new int[n];
        world.broken = new int[n];
        for (int i = 0; i < n; i++) {
            world.bikes[i] = city.stations.get(i).bikes;
        }
        for (TruckPlan plan : city.trucks) {
            Truck t = new Truck();
            t.parked = plan.station;
            t.capacity = plan.capacity;
            world.trucks.add(t);
        }
        history.clear();
        slots[0] = null;
        slots[1] = null;
    }

    // city

    int append(int... words) {
        if (buffer.length() + 20 > 700) {
            return NONE;
        }
        for (int word : words) {
            for (int i = 3; i >= 0; i--) {
                buffer.append((char) (word >>> 8 * i & 255));
            }
        }
        return buffer.length();
    }

    int parse(int length) {
        argument(length >= 0 && length <= buffer.length());
        String text = buffer.substring(0, length);
        buffer.setLength(0);
        try {
            city = new Parser(text).city();
        } catch (SyntaxError e) {
            return -2 - (8 * e.offset + e.kind);
        }
        begin();
        return city.stations.size();
    }

    int size(int what) {
        argument(what >= 0 && what <= 2);
        return List.of(city.stations.size(), city.trucks.size(), city.trips.size()).get(what);
    }

    int fleet() {
        int sum = riders();
        for (int b : world.bikes) {
            sum += b;
        }
        return sum + total(5);
    }

    // stations

    int bikes(int s) {
        station(s);
        return world.bikes[s];
    }

    int working(int s) {
        return city.stations.get(s).docks - world.broken[s];
    }

    int freeDocks(int s) {
        station(s);
        return working(s) - world.bikes[s];
    }

    int brokenDocks(int s) {
        station(s);
        return world.broken[s];
    }

    int mark(int s) {
        return working(s) * city.setting("balance", 0, 20) / 100;
    }

    boolean isBalanced(int s) {
        station(s);
        return world.bikes[s] >= mark(s) && freeDocks(s) >= mark(s);
    }

    int imbalance() {
        int sum = 0;
        for (int s = 0; s < city.stations.size(); s++) {
            sum += Math.max(0, mark(s) - bikes(s));
            sum += Math.max(0, mark(s) - freeDocks(s));
        }
        return sum;
    }

    int nearest(int s, boolean dock) {
        station(s);
        for (int d = 0; d <= 198; d++) {
            for (int i = 0; i < city.stations.size(); i++) {
                if (i != s && city.distance(s, i) == d && (dock ? freeDocks(i) : bikes(i)) > 0) {
                    return i;
                }
            }
        }
        return NONE;
    }

    // rides

    int rideMinutes(int from, int to) {
        station(from);
        station(to);
        return city.rideMinutes(from, to);
    }

    int quote(int from, int to) {
        station(from);
        station(to);
        Map<String, Integer> names = Map.of("minutes", rideMinutes(from, to), "bikes", bikes(from),
                "docks", freeDocks(to), "hour", world.time / 60 % 24);
        int value = city.fare == null ? 100 : city.fare.value(names);
        return value < 0 ? 0 : value > 9999 ? 9999 : value;
    }

    int bonusAt(int s) {
        station(s);
        return bikes(s) * 100 < city.setting("bonus", 0, 0) * working(s) ? city.setting("bonus", 1, 0) : 0;
    }

    int bestDeal(int from) {
        station(from);
        int best = NONE;
        for (int i = city.stations.size() - 1; i >= 0; i--) {
            if (i != from && freeDocks(i) > 0
                    && (best == NONE || quote(from, i) - bonusAt(i) <= quote(from, best) - bonusAt(best))) {
                best = i;
            }
        }
        return best;
    }

    private List<Ride> onTheWay() {
        List<Ride> list = new ArrayList<>(world.rides);
        list.removeIf(r -> r.status == 1);
        list.sort(Comparator.comparingInt((Ride r) -> r.arrival).thenComparingInt(r -> r.number));
        return list;
    }

    int riders() {
        return onTheWay().size();
    }

    int rider(int i, int what) {
        List<Ride> list = onTheWay();
        index(i >= 0 && i < list.size());
        argument(what >= 0 && what <= 2);
        Ride r = list.get(i);
        return what == 0 ? r.arrival : what == 1 ? r.target : r.from;
    }

    int ridesBetween(int from, int to) {
        station(from);
        station(to);
        return (int) world.rides.stream().filter(r -> r.from == from && r.to == to).count();
    }

    int busiestPair() {
        int best = NONE;
        int most = 0;
        for (Ride r : world.rides) {
            if (ridesBetween(r.from, r.to) > most) {
                most = ridesBetween(r.from, r.to);
                best = 8 * r.from + r.to;
            }
        }
        return best;
    }

    // trucks

    int truck(int t, int what) {
        truckIndex(t);
        argument(what >= 0 && what <= 5);
        Truck k = world.trucks.get(t);
        return List.of(k.parked, k.driving, k.arrival, k.load, k.capacity, k.queue.size()).get(what);
    }

    int tourMinutes(int t) {
        return bestTour(t) == null ? NONE : bestTour(t).minutes;
    }

    int tourStop(int t, int stop) {
        Best best = bestTour(t);
        return best == null || stop < 0 || stop >= best.stops.size() ? NONE : best.stops.get(stop);
    }

    Best bestTour(int t) {
        truckIndex(t);
        Truck k = world.trucks.get(t);
        state(k.parked != NONE);
        boolean[] loads = new boolean[k.capacity + 1];
        loads[k.load] = true;
        Best[] best = new Best[1];
        extend(new ArrayList<>(), 0, loads, k, best);
        return best[0];
    }

    private void extend(List<Integer> stops, int minutes, boolean[] loads, Truck k, Best[] best) {
        boolean rest = true;
        for (int s = 0; s < city.stations.size(); s++) {
            rest &= stops.contains(s) || isBalanced(s);
        }
        if (rest && (best[0] == null || isBetter(minutes, stops, best[0]))) {
            best[0] = new Best(minutes, new ArrayList<>(stops));
        }
        for (int s = 0; s < city.stations.size(); s++) {
            if (stops.contains(s)) {
                continue;
            }
            boolean[] then = new boolean[loads.length];
            boolean any = false;
            for (int l = 0; l < loads.length; l++) {
                for (int left = 0; loads[l] && left <= working(s); left++) {
                    int after = l + bikes(s) - left;
                    if (after >= 0 && after < loads.length && left >= mark(s) && working(s) - left >= mark(s)) {
                        then[after] = true;
                        any = true;
                    }
                }
            }
            if (any) {
                int from = stops.isEmpty() ? k.parked : stops.get(stops.size() - 1);
                int way = stops.isEmpty() && from == s ? 0 : city.truckMinutes(from, s);
                stops.add(s);
                extend(stops, minutes + way, then, k, best);
                stops.remove(stops.size() - 1);
            }
        }
    }

    private static boolean isBetter(int minutes, List<Integer> stops, Best best) {
        if (minutes != best.minutes) {
            return minutes < best.minutes;
        }
        if (stops.size() != best.stops.size()) {
            return stops.size() < best.stops.size();
        }
        return stops.toString().compareTo(best.stops.toString()) < 0;
    }

    // totals and forecasts

    int total(int what) {
        argument(what >= 0 && what <= 5);
        int onTrucks = world.trucks.stream().mapToInt(k -> k.load).sum();
        return List.of(world.fares, world.bonuses, world.rides.size(), world.lost, world.turned, onTrucks).get(what);
    }

    int forecast(int minutes, int what) {
        argument(minutes >= 0 && minutes <= 1440 && what >= 0 && what <= 5);
        World kept = world;
        world = kept.copy();
        for (int i = 0; i < minutes; i++) {
            minute();
        }
        int answer = total(what);
        world = kept;
        return answer;
    }

    int runsOut(int s, boolean docks) {
        station(s);
        World kept = world;
        world = kept.copy();
        int answer = NONE;
        for (int i = 0; i <= 1440 && answer == NONE; i++) {
            if ((docks ? freeDocks(s) : bikes(s)) == 0) {
                answer = i;
            } else {
                minute();
            }
        }
        world = kept;
        return answer;
    }

    // changes

    private void change() {
        history.push(world.copy());
        if (history.size() > 10) {
            history.removeLast();
        }
    }

    private int minute() {
        world.time++;
        for (Truck k : world.trucks) {
            if (k.arrival == world.time) {
                k.parked = k.driving;
                k.driving = NONE;
                k.arrival = NONE;
                carryOut(k, k.order);
                goOn(k);
            }
        }
        int ended = 0;
        for (Ride r : world.rides) {
            if (r.status == 0 && r.arrival == world.time) {
                ended += arrive(r);
            }
        }
        for (Trip trip : city.trips) {
            if (trip.minute == world.time % 1440) {
                if (bikes(trip.from) > 0) {
                    begin(trip.from, trip.to);
                } else {
                    world.lost++;
                }
            }
        }
        return ended;
    }

    private int arrive(Ride r) {
        if (freeDocks(r.target) > 0) {
            world.bonuses += bonusAt(r.target);
            world.bikes[r.target]++;
            r.status = 1;
            return 1;
        }
        world.turned++;
        int other = nearest(r.target, true);
        r.arrival = world.time + (other == NONE ? 1 : rideMinutes(r.target, other));
        r.target = other == NONE ? r.target : other;
        return 0;
    }

    private Ride begin(int from, int to) {
        Ride r = new Ride();
        r.number = world.rides.size();
        r.from = from;
        r.to = to;
        r.target = to;
        r.arrival = world.time + rideMinutes(from, to);
        world.fares += quote(from, to);
        world.bikes[from]--;
        world.rides.add(r);
        return r;
    }

    private void carryOut(Truck k, Order order) {
        int s = k.parked;
        while (bikes(s) < order.target && k.load > 0 && freeDocks(s) > 0) {
            world.bikes[s]++;
            k.load--;
        }
        while (bikes(s) > order.target && k.load < k.capacity) {
            world.bikes[s]--;
            k.load++;
        }
    }

    private void goOn(Truck k) {
        while (k.parked != NONE && !k.queue.isEmpty()) {
            Order order = k.queue.removeFirst();
            if (order.station == k.parked) {
                carryOut(k, order);
            } else {
                k.arrival = world.time + city.truckMinutes(k.parked, order.station);
                k.driving = order.station;
                k.parked = NONE;
                k.order = order;
            }
        }
    }

    int pass(int minutes) {
        argument(minutes >= 1 && minutes <= 1440);
        state(world.time + minutes <= 9999);
        change();
        int ended = 0;
        for (int i = 0; i < minutes; i++) {
            ended += minute();
        }
        return ended;
    }

    int rent(int from, int to) {
        station(from);
        station(to);
        state(bikes(from) > 0);
        change();
        return begin(from, to).arrival;
    }

    int dispatch(int t, int s, int target) {
        truckIndex(t);
        station(s);
        argument(target >= 0 && target <= 20);
        state(world.trucks.get(t).queue.size() < 6);
        change();
        world.trucks.get(t).queue.add(new Order(s, target));
        goOn(world.trucks.get(t));
        return world.trucks.get(t).queue.size();
    }

    int cancel(int t) {
        truckIndex(t);
        change();
        int count = world.trucks.get(t).queue.size();
        world.trucks.get(t).queue.clear();
        return count;
    }

    int breakDock(int s) {
        station(s);
        state(freeDocks(s) > 0);
        change();
        return ++world.broken[s];
    }

    int repairDock(int s) {
        station(s);
        state(world.broken[s] > 0);
        change();
        return --world.broken[s];
    }

    int addBikes(int s, int count) {
        station(s);
        argument(count >= 1 && count <= 20);
        state(freeDocks(s) >= count);
        change();
        world.bikes[s] += count;
        return fleet();
    }

    int removeBikes(int s, int count) {
        station(s);
        argument(count >= 1 && count <= 20);
        state(bikes(s) >= count);
        change();
        world.bikes[s] -= count;
        return fleet();
    }

    // undo and snapshots

    int undo() {
        if (history.isEmpty()) {
            return NONE;
        }
        world = history.pop();
        return history.size();
    }

    boolean saveSnapshot(int slot) {
        if (slot != 0 && slot != 1) {
            return false;
        }
        slots[slot] = world.copy();
        return true;
    }

    boolean restoreSnapshot(int slot) {
        if (slot != 0 && slot != 1 || slots[slot] == null) {
            return false;
        }
        world = slots[slot].copy();
        history.clear();
        return true;
    }

    private void station(int s) {
        index(s >= 0 && s < city.stations.size());
    }

    private void truckIndex(int t) {
        index(t >= 0 && t < city.trucks.size());
    }

    private static void index(boolean fine) {
        if (!fine) {
            throw new IndexOutOfBoundsException();
        }
    }

    private static void argument(boolean fine) {
        if (!fine) {
            throw new IllegalArgumentException();
        }
    }

    private static void state(boolean fine) {
        if (!fine) {
            throw new IllegalStateException();
        }
    }
}
