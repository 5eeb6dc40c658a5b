import java.util.Arrays;

/** A simulator of a bike share; README.md tells its use, the project's document its promises. */
public final class BikeShare {
    public static final int NONE = -1;

    private static final int MOST_STATIONS = 8;
    private static final int MOST_TRUCKS = 3;
    private static final int MOST_TRIPS = 30;
    private static final int MOST_ORDERS = 6;
    private static final int MOST_BYTES = 700;
    private static final int MOST_COUNT = 20;
    private static final int MOST_FARE = 9999;
    private static final int LAST_TIME = 9999;
    private static final int DAY = 1440;
    private static final int UNDO_DEPTH = 10;
    private static final int SLOTS = 2;

    // 512 calls rent fewer than 512 bikes, and 30 trips begin at most 8 times each, forecasts
    // included; so no promised call meets this limit, but it keeps every row of rides bounded.
    private static final int MOST_RIDES = 768;

    private final byte[] buffer = new byte[MOST_BYTES];
    private final CityReader reader = new CityReader();
    private final History history = new History();
    private final Tour tour = new Tour();
    private final State[] slots = new State[SLOTS];
    private final boolean[] slotHolds = new boolean[SLOTS];
    private final State now;
    private final State ahead;
    private int filled;
    private City city;
    private City spare;

    public BikeShare() {
        City first = new City();
        city = first;
        spare = new City();
        now = new State(first);
        ahead = new State(first);
    }

    // ---- city

    public int append(int a, int b, int c, int d, int e) {
        if (filled + 20 > MOST_BYTES) {
            return NONE;
        }
        appendWord(a);
        appendWord(b);
        appendWord(c);
        appendWord(d);
        appendWord(e);
        return filled;
    }

    public int parse(int length) throws IllegalArgumentException {
        if (length < 0 || length > filled) {
            throw new IllegalArgumentException("length is out of range");
        }
        int fault = reader.readCity(buffer, length, spare);
        filled = 0;
        if (fault != 0) {
            return -2 - fault;
        }
        City read = spare;
        spare = city;
        city = read;
        now.begin(city);
        history.clear();
        for (int i = 0; i < SLOTS; i++) {
            slotHolds[i] = false;
        }
        return city.stations;
    }

    public int size(int what) throws IllegalArgumentException {
        switch (what) {
            case 0:
                return city.stations;
            case 1:
                return city.trucks;
            case 2:
                return city.trips;
            default:
                throw new IllegalArgumentException("what is out of range");
        }
    }

    public int time() {
        return now.time;
    }

    public int fleet() {
        return now.allBikes();
    }

    // ---- stations

    public int bikes(int station) throws IndexOutOfBoundsException {
        checkStation(station);
        return now.bikes[station];
    }

    public int freeDocks(int station) throws IndexOutOfBoundsException {
        checkStation(station);
        return now.free(station);
    }

    public int brokenDocks(int station) throws IndexOutOfBoundsException {
        checkStation(station);
        return now.broken[station];
    }

    public boolean isBalanced(int station) throws IndexOutOfBoundsException {
        checkStation(station);
        return now.missing(station) == 0;
    }

    public int imbalance() {
        int sum = 0;
        for (int i = 0; i < city.stations; i++) {
            sum += now.missing(i);
        }
        return sum;
    }

    public int nearest(int station, boolean dock) throws IndexOutOfBoundsException {
        checkStation(station);
        return now.nearestOther(station, dock);
    }

    // ---- rides

    public int rideMinutes(int from, int to) throws IndexOutOfBoundsException {
        checkStation(from);
        checkStation(to);
        return city.riderMinutes(from, to);
    }

    public int quote(int from, int to) throws IndexOutOfBoundsException {
        checkStation(from);
        checkStation(to);
        return now.fareNow(from, to);
    }

    public int bonusAt(int station) throws IndexOutOfBoundsException {
        checkStation(station);
        return now.bonusNow(station);
    }

    public int bestDeal(int from) throws IndexOutOfBoundsException {
        checkStation(from);
        int best = NONE;
        int bestPrice = 0;
        for (int i = 0; i < city.stations; i++) {
            if (i == from || now.free(i) == 0) {
                continue;
            }
            int price = now.fareNow(from, i) - now.bonusNow(i);
            if (best == NONE || price < bestPrice) {
                best = i;
                bestPrice = price;
            }
        }
        return best;
    }

    public int riders() {
        return now.riders.count;
    }

    public int rider(int rider, int what) throws IndexOutOfBoundsException, IllegalArgumentException {
        if (rider < 0 || rider >= now.riders.count) {
            throw new IndexOutOfBoundsException("no such rider");
        }
        int code = now.riders.codes[rider];
        switch (what) {
            case 0:
                return Riders.arrival(code);
            case 1:
                return Riders.target(code);
            case 2:
                return Riders.origin(code);
            default:
                throw new IllegalArgumentException("what is out of range");
        }
    }

    public int ridesBetween(int from, int to) throws IndexOutOfBoundsException {
        checkStation(from);
        checkStation(to);
        return now.pairRides[MOST_STATIONS * from + to];
    }

    public int busiestPair() {
        return now.busiest();
    }

    // ---- trucks

    public int truck(int truck, int what) throws IndexOutOfBoundsException, IllegalArgumentException {
        checkTruck(truck);
        Truck asked = now.trucks[truck];
        switch (what) {
            case 0:
                return asked.drives() ? NONE : asked.place;
            case 1:
                return asked.drives() ? asked.place : NONE;
            case 2:
                return asked.due;
            case 3:
                return asked.load;
            case 4:
                return asked.capacity;
            case 5:
                return asked.orders;
            default:
                throw new IllegalArgumentException("what is out of range");
        }
    }

    public int tourMinutes(int truck) throws IndexOutOfBoundsException, IllegalStateException {
        checkTruck(truck);
        checkParked(truck);
        tour.search(now, now.trucks[truck]);
        return tour.bestMinutes;
    }

    public int tourStop(int truck, int stop) throws IndexOutOfBoundsException, IllegalStateException {
        checkTruck(truck);
        checkParked(truck);
        tour.search(now, now.trucks[truck]);
        return stop < 0 || stop >= tour.bestStops ? NONE : tour.best[stop];
    }

    // ---- totals and forecasts

    public int total(int what) throws IllegalArgumentException {
        checkTotal(what);
        return now.sum(what);
    }

    public int forecast(int minutes, int what) throws IllegalArgumentException {
        checkTotal(what);
        checkRange(minutes, 0, DAY);
        ahead.copy(now);
        ahead.advance(minutes);
        return ahead.sum(what);
    }

    public int runsOut(int station, boolean docks) throws IndexOutOfBoundsException {
        checkStation(station);
        ahead.copy(now);
        return ahead.minutesUntilOut(station, docks);
    }

    // ---- changes

    public int pass(int minutes) throws IllegalArgumentException, IllegalStateException {
        checkRange(minutes, 1, DAY);
        if (now.time + minutes > LAST_TIME) {
            throw new IllegalStateException("the time would exceed its limit");
        }
        history.remember(now);
        return now.advance(minutes);
    }

    public int rent(int from, int to) throws IndexOutOfBoundsException, IllegalStateException {
        checkStation(from);
        checkStation(to);
        if (!now.canRide(from)) {
            throw new IllegalStateException("no bike there");
        }
        history.remember(now);
        now.startRide(from, to);
        return now.time + city.riderMinutes(from, to);
    }

    public int dispatch(int truck, int station, int target)
            throws IndexOutOfBoundsException, IllegalArgumentException, IllegalStateException {
        checkTruck(truck);
        checkStation(station);
        checkRange(target, 0, MOST_COUNT);
        Truck sent = now.trucks[truck];
        if (sent.orders >= MOST_ORDERS) {
            throw new IllegalStateException("the queue is full");
        }
        history.remember(now);
        sent.addOrder(station, target);
        now.goOn(sent);
        return sent.orders;
    }

    public int cancel(int truck) throws IndexOutOfBoundsException {
        checkTruck(truck);
        history.remember(now);
        int removed = now.trucks[truck].orders;
        now.trucks[truck].orders = 0;
        return removed;
    }

    public int breakDock(int station) throws IndexOutOfBoundsException, IllegalStateException {
        checkStation(station);
        if (now.free(station) == 0) {
            throw new IllegalStateException("no free dock");
        }
        history.remember(now);
        now.broken[station]++;
        return now.broken[station];
    }

    public int repairDock(int station) throws IndexOutOfBoundsException, IllegalStateException {
        checkStation(station);
        if (now.broken[station] == 0) {
            throw new IllegalStateException("no broken dock");
        }
        history.remember(now);
        now.broken[station]--;
        return now.broken[station];
    }

    public int addBikes(int station, int count)
            throws IndexOutOfBoundsException, IllegalArgumentException, IllegalStateException {
        checkStation(station);
        checkRange(count, 1, MOST_COUNT);
        if (now.free(station) < count) {
            throw new IllegalStateException("too few free docks");
        }
        history.remember(now);
        now.bikes[station] += count;
        return now.allBikes();
    }

    public int removeBikes(int station, int count)
            throws IndexOutOfBoundsException, IllegalArgumentException, IllegalStateException {
        checkStation(station);
        checkRange(count, 1, MOST_COUNT);
        if (now.bikes[station] < count) {
            throw new IllegalStateException("too few bikes");
        }
        history.remember(now);
        now.bikes[station] -= count;
        return now.allBikes();
    }

    // ---- undo and snapshots

    public int undo() {
        return history.takeBack(now) ? history.count : NONE;
    }

    public boolean saveSnapshot(int slot) {
        if (slot < 0 || slot >= SLOTS) {
            return false;
        }
        if (slots[slot] == null) {
            slots[slot] = new State(city);
        }
        slots[slot].copy(now);
        slotHolds[slot] = true;
        return true;
    }

    public boolean restoreSnapshot(int slot) {
        if (slot < 0 || slot >= SLOTS || !slotHolds[slot] || slots[slot] == null) {
            return false;
        }
        now.copy(slots[slot]);
        history.clear();
        return true;
    }

    // ---- what the methods share

    private void appendWord(int word) {
        for (int shift = 24; shift >= 0 && filled < MOST_BYTES; shift -= 8) {
            buffer[filled] = (byte) (word >> shift);
            filled++;
        }
    }

    private void checkStation(int station) {
        if (station < 0 || station >= city.stations) {
            throw new IndexOutOfBoundsException("no such station");
        }
    }

    private void checkTruck(int truck) {
        if (truck < 0 || truck >= city.trucks) {
            throw new IndexOutOfBoundsException("no such truck");
        }
    }

    private void checkParked(int truck) {
        if (now.trucks[truck].drives()) {
            throw new IllegalStateException("the truck drives");
        }
    }

    private static void checkTotal(int what) {
        checkRange(what, 0, State.LAST_SUM);
    }

    private static void checkRange(int value, int least, int most) {
        if (value < least || value > most) {
            throw new IllegalArgumentException("an argument is out of range");
        }
    }

    /** What a city text tells and no change alters. */
    private static final class City {
        final int[] x = new int[MOST_STATIONS];
        final int[] y = new int[MOST_STATIONS];
        final int[] docks = new int[MOST_STATIONS];
        final int[] bikes = new int[MOST_STATIONS];
        final int[] truckHome = new int[MOST_TRUCKS];
        final int[] truckCapacity = new int[MOST_TRUCKS];
        final int[] tripFrom = new int[MOST_TRIPS];
        final int[] tripTo = new int[MOST_TRIPS];
        final int[] tripMinute = new int[MOST_TRIPS];
        final Fare fare = new Fare();
        int stations;
        int trucks;
        int trips;
        int riderPace;
        int truckPace;
        int balancePercent;
        int bonusPercent;
        int bonusCents;

        City() {
            clear();
        }

        /** Makes the city of an empty text. */
        void clear() {
            stations = 0;
            trucks = 0;
            trips = 0;
            riderPace = 10;
            truckPace = 5;
            balancePercent = 20;
            bonusPercent = 0;
            bonusCents = 0;
            fare.clear();
            fare.add(100);
        }

        void addStation(int across, int up, int dockCount, int bikeCount) {
            if (stations < MOST_STATIONS) {
                x[stations] = across;
                y[stations] = up;
                docks[stations] = dockCount;
                bikes[stations] = bikeCount;
                stations++;
            }
        }

        void addTruck(int home, int capacity) {
            if (trucks < MOST_TRUCKS) {
                truckHome[trucks] = home;
                truckCapacity[trucks] = capacity;
                trucks++;
            }
        }

        void addTrip(int from, int to, int minute) {
            if (trips < MOST_TRIPS) {
                tripFrom[trips] = from;
                tripTo[trips] = to;
                tripMinute[trips] = minute;
                trips++;
            }
        }

        int distance(int from, int to) {
            int across = x[from] - x[to];
            int up = y[from] - y[to];
            return (across < 0 ? -across : across) + (up < 0 ? -up : up);
        }

        int riderMinutes(int from, int to) {
            return 1 + distance(from, to) * riderPace / 10;
        }

        int truckMinutes(int from, int to) {
            return 1 + distance(from, to) * truckPace / 10;
        }
    }

    /** The sum of the fare statement, its operators behind their operands. */
    private static final class Fare {
        // Every number of a sum is 0 or more, so what is below 0 can stand for the other items.
        static final int MINUTES = -1;
        static final int BIKES = -2;
        static final int DOCKS = -3;
        static final int HOUR = -4;
        static final int PLUS = -5;
        static final int MINUS = -6;
        static final int TIMES = -7;
        static final int DIVIDED = -8;

        // Six levels of parentheses hold two waiting operands each, and one more is worked on.
        static final int MOST_WAITING = 16;

        final int[] items = new int[MOST_BYTES];
        final int[] stack = new int[MOST_WAITING];
        int length;

        void clear() {
            length = 0;
        }

        void add(int item) {
            if (length < items.length) {
                items[length] = item;
                length++;
            }
        }

        int worth(int minutes, int bikes, int docks, int hour) {
            int top = 0;
            for (int i = 0; i < length; i++) {
                int item = items[i];
                if (item <= PLUS) {
                    if (top < 2) {
                        return 0;
                    }
                    top--;
                    stack[top - 1] = apply(item, stack[top - 1], stack[top]);
                } else {
                    if (top >= MOST_WAITING) {
                        return 0;
                    }
                    stack[top] = operand(item, minutes, bikes, docks, hour);
                    top++;
                }
            }
            return stack[0];
        }

        private static int operand(int item, int minutes, int bikes, int docks, int hour) {
            switch (item) {
                case MINUTES:
                    return minutes;
                case BIKES:
                    return bikes;
                case DOCKS:
                    return docks;
                case HOUR:
                    return hour;
                default:
                    return item;
            }
        }

        private static int apply(int operator, int left, int right) {
            switch (operator) {
                case PLUS:
                    return left + right;
                case MINUS:
                    return left - right;
                case TIMES:
                    return left * right;
                default:
                    return right == 0 ? 0 : left / right;
            }
        }
    }

    /** Reads a city text; it stops at the first token that is wrong. */
    private static final class CityReader {
        static final int SYNTAX = 1;
        static final int REPEATED = 2;
        static final int RANGE = 3;
        static final int TOO_MANY = 4;

        static final int END = 0;
        static final int WORD = 1;
        static final int NUMBER = 2;
        static final int SIGN = 3;
        static final int ILLEGAL = 4;

        static final int MOST_LETTERS = 8;
        static final int MOST_DIGITS = 4;
        static final int MOST_OPEN = 5;
        static final int OPENING = 0;
        static final int PLUS_RANK = 1;
        static final int TIMES_RANK = 2;

        // Six levels of parentheses hold two waiting operators each, and five opening signs.
        final int[] operators = new int[24];
        int waiting;
        byte[] text;
        City city;
        int length;
        int start;
        int end;
        int kind;
        int value;
        int fault;
        boolean paceRead;
        boolean balanceRead;
        boolean bonusRead;
        boolean fareRead;

        /** Returns 0, or 8 * offset + kind of the first error. */
        int readCity(byte[] bytes, int count, City read) {
            text = bytes;
            length = Math.min(count, bytes.length);
            city = read;
            city.clear();
            end = 0;
            fault = 0;
            paceRead = false;
            balanceRead = false;
            bonusRead = false;
            fareRead = false;
            nextToken();
            for (int left = length; left > 0 && kind != END && fault == 0; left--) {
                readStatement();
                expectSign(';');
            }
            return fault;
        }

        private void readStatement() {
            if (isWord("station")) {
                readStation();
            } else if (isWord("truck")) {
                readTruck();
            } else if (isWord("trip")) {
                readTrip();
            } else if (isWord("pace")) {
                readPace();
            } else if (isWord("balance")) {
                readBalance();
            } else if (isWord("bonus")) {
                readBonus();
            } else if (isWord("fare")) {
                readFare();
            } else {
                fail(SYNTAX);
            }
        }

        private void readStation() {
            takeCountedWord(city.stations, MOST_STATIONS);
            int x = takeNumber(0, 99);
            int y = takeNumber(0, 99);
            int docks = takeNumber(1, 20);
            int bikes = takeNumber(0, docks);
            if (fault == 0) {
                city.addStation(x, y, docks, bikes);
            }
        }

        private void readTruck() {
            takeCountedWord(city.trucks, MOST_TRUCKS);
            int home = takeNumber(0, city.stations - 1);
            int capacity = takeNumber(1, 20);
            if (fault == 0) {
                city.addTruck(home, capacity);
            }
        }

        private void readTrip() {
            takeCountedWord(city.trips, MOST_TRIPS);
            int from = takeNumber(0, city.stations - 1);
            int to = takeNumber(0, city.stations - 1);
            int minute = takeNumber(0, DAY - 1);
            if (fault == 0) {
                city.addTrip(from, to, minute);
            }
        }

        private void readPace() {
            takeSingleWord(paceRead);
            paceRead = true;
            city.riderPace = takeNumber(0, 99);
            city.truckPace = takeNumber(0, 99);
        }

        private void readBalance() {
            takeSingleWord(balanceRead);
            balanceRead = true;
            city.balancePercent = takeNumber(0, 50);
        }

        private void readBonus() {
            takeSingleWord(bonusRead);
            bonusRead = true;
            city.bonusPercent = takeNumber(0, 100);
            city.bonusCents = takeNumber(0, 999);
        }

        private void readFare() {
            takeSingleWord(fareRead);
            fareRead = true;
            city.fare.clear();
            waiting = 0;
            int open = 0;
            boolean factorIsNext = true;
            for (int left = length; left > 0 && fault == 0; left--) {
                if (factorIsNext && isSign('(')) {
                    if (open >= MOST_OPEN) {
                        fail(TOO_MANY);
                    }
                    open++;
                    holdOperator(OPENING);
                } else if (factorIsNext) {
                    takeFactor();
                    factorIsNext = false;
                } else if (operatorOfToken() != OPENING) {
                    takeOperator(operatorOfToken());
                    factorIsNext = true;
                } else if (open > 0 && isSign(')')) {
                    open--;
                    closeParenthesis();
                } else {
                    break;
                }
                nextToken();
            }
            if (open > 0 || factorIsNext) {
                fail(SYNTAX);
            }
            releaseOperators(PLUS_RANK);
        }

        private void takeFactor() {
            if (kind == NUMBER) {
                city.fare.add(value);
            } else if (isWord("minutes")) {
                city.fare.add(Fare.MINUTES);
            } else if (isWord("bikes")) {
                city.fare.add(Fare.BIKES);
            } else if (isWord("docks")) {
                city.fare.add(Fare.DOCKS);
            } else if (isWord("hour")) {
                city.fare.add(Fare.HOUR);
            } else {
                fail(SYNTAX);
            }
        }

        private int operatorOfToken() {
            if (kind != SIGN) {
                return OPENING;
            }
            switch (value) {
                case '+':
                    return Fare.PLUS;
                case '-':
                    return Fare.MINUS;
                case '*':
                    return Fare.TIMES;
                case '/':
                    return Fare.DIVIDED;
                default:
                    return OPENING;
            }
        }

        private static int rank(int operator) {
            if (operator == OPENING) {
                return 0;
            }
            return operator == Fare.PLUS || operator == Fare.MINUS ? PLUS_RANK : TIMES_RANK;
        }

        private void takeOperator(int operator) {
            releaseOperators(rank(operator));
            holdOperator(operator);
        }

        private void holdOperator(int operator) {
            if (waiting < operators.length) {
                operators[waiting] = operator;
                waiting++;
            }
        }

        private void releaseOperators(int leastRank) {
            for (; waiting > 0 && rank(operators[waiting - 1]) >= leastRank; waiting--) {
                city.fare.add(operators[waiting - 1]);
            }
        }

        private void closeParenthesis() {
            releaseOperators(PLUS_RANK);
            if (waiting > 0) {
                waiting--;
            }
        }

        private void takeCountedWord(int count, int most) {
            if (count >= most) {
                fail(TOO_MANY);
            }
            nextToken();
        }

        private void takeSingleWord(boolean readBefore) {
            if (readBefore) {
                fail(REPEATED);
            }
            nextToken();
        }

        private int takeNumber(int least, int most) {
            int number = value;
            if (kind != NUMBER) {
                fail(SYNTAX);
            } else if (number < least || number > most) {
                fail(RANGE);
            }
            nextToken();
            return number;
        }

        private void expectSign(char sign) {
            if (!isSign(sign)) {
                fail(SYNTAX);
            }
            nextToken();
        }

        /** Keeps the first error, whose offset is the lowest as the text is read forward. */
        private void fail(int error) {
            if (fault == 0) {
                fault = 8 * start + error;
            }
        }

        private boolean isSign(char sign) {
            return kind == SIGN && value == sign;
        }

        private boolean isWord(String word) {
            if (kind != WORD || end - start != word.length()) {
                return false;
            }
            for (int i = 0; i < word.length(); i++) {
                if (text[start + i] != word.charAt(i)) {
                    return false;
                }
            }
            return true;
        }

        private void nextToken() {
            start = end;
            while (start < length && (text[start] == ' ' || text[start] == '\n')) {
                start++;
            }
            end = start;
            if (start >= length) {
                kind = END;
            } else if (isLetter(text[start])) {
                while (end < length && isLetter(text[end])) {
                    end++;
                }
                kind = end - start <= MOST_LETTERS ? WORD : ILLEGAL;
            } else if (isDigit(text[start])) {
                value = 0;
                while (end < length && isDigit(text[end])) {
                    value = 10 * value + text[end] - '0';
                    end++;
                }
                kind = end - start <= MOST_DIGITS ? NUMBER : ILLEGAL;
            } else {
                value = text[start];
                kind = isSignByte(text[start]) ? SIGN : ILLEGAL;
                end++;
            }
        }

        private static boolean isLetter(int sign) {
            return sign >= 'a' && sign <= 'z';
        }

        private static boolean isDigit(int sign) {
            return sign >= '0' && sign <= '9';
        }

        private static boolean isSignByte(int sign) {
            return sign == ';' || sign >= '(' && sign <= '+' || sign == '-' || sign == '/';
        }
    }

    /** The riders on their way, in the order of their arrival, then of their rides' beginning. */
    private static final class Riders {
        // A rider is one number: arrival, ride, origin, target, from the highest bits to the
        // lowest; so the order of the riders is that of the numbers.
        final int[] codes = new int[MOST_RIDES];
        int count;

        static int code(int arrival, int ride, int origin, int target) {
            return arrival << 16 | ride << 6 | origin << 3 | target;
        }

        static int redirected(int code, int arrival, int target) {
            return arrival << 16 | code & 0xfff8 | target;
        }

        static int arrival(int code) {
            return code >> 16;
        }

        static int origin(int code) {
            return code >> 3 & 7;
        }

        static int target(int code) {
            return code & 7;
        }

        void copy(Riders other) {
            count = other.count;
            System.arraycopy(other.codes, 0, codes, 0, count);
        }

        void add(int code) {
            if (count < codes.length) {
                codes[count] = code;
                count++;
                settle(count - 1);
            }
        }

        /** The number of riders, all at the front, who arrive at a time or before. */
        int arrivedBy(int time) {
            int arrived = 0;
            while (arrived < count && arrival(codes[arrived]) <= time) {
                arrived++;
            }
            return arrived;
        }

        /** Of the riders at the front keeps the first ones, whose numbers may be new. */
        void keepOfFront(int front, int kept) {
            if (kept < 0 || kept > front || front > count) {
                return;
            }
            System.arraycopy(codes, front, codes, kept, count - front);
            count -= front - kept;
            if (kept > 0) {
                for (int i = 1; i < count; i++) {
                    settle(i);
                }
            }
        }

        private void settle(int place) {
            int code = codes[place];
            int free = place;
            for (; free > 0 && codes[free - 1] > code; free--) {
                codes[free] = codes[free - 1];
            }
            codes[free] = code;
        }
    }

    private static final class Truck {
        final int[] orderStation = new int[MOST_ORDERS];
        final int[] orderTarget = new int[MOST_ORDERS];
        int orders;
        int capacity;
        int load;
        // Where it is parked or, if it drives, where it drives to.
        int place;
        // The time of its arrival, NONE if it is parked.
        int due;
        // The target of the order for which it drives.
        int goal;

        void begin(int home, int mostLoad) {
            orders = 0;
            capacity = mostLoad;
            load = 0;
            place = home;
            due = NONE;
            goal = 0;
        }

        void copy(Truck other) {
            orders = other.orders;
            capacity = other.capacity;
            load = other.load;
            place = other.place;
            due = other.due;
            goal = other.goal;
            System.arraycopy(other.orderStation, 0, orderStation, 0, MOST_ORDERS);
            System.arraycopy(other.orderTarget, 0, orderTarget, 0, MOST_ORDERS);
        }

        boolean drives() {
            return due != NONE;
        }

        void addOrder(int station, int target) {
            if (orders < MOST_ORDERS) {
                orderStation[orders] = station;
                orderTarget[orders] = target;
                orders++;
            }
        }

        void dropFirstOrder() {
            if (orders > 0) {
                orders--;
                System.arraycopy(orderStation, 1, orderStation, 0, MOST_ORDERS - 1);
                System.arraycopy(orderTarget, 1, orderTarget, 0, MOST_ORDERS - 1);
            }
        }
    }

    /** Everything that changes can change, and what happens as the minutes pass. */
    private static final class State {
        static final int LAST_SUM = 5;
        // Later than any time, that of forecasts included.
        static final int NEVER = 1 << 20;

        final int[] bikes = new int[MOST_STATIONS];
        final int[] broken = new int[MOST_STATIONS];
        final int[] pairRides = new int[MOST_STATIONS * MOST_STATIONS];
        final int[] pairFirst = new int[MOST_STATIONS * MOST_STATIONS];
        final Truck[] trucks = new Truck[MOST_TRUCKS];
        final Riders riders = new Riders();
        City city;
        int time;
        int fares;
        int bonuses;
        int rides;
        int lost;
        int turnedAway;

        State(City first) {
            for (int i = 0; i < MOST_TRUCKS; i++) {
                trucks[i] = new Truck();
            }
            begin(first);
        }

        void begin(City first) {
            city = first;
            time = 0;
            fares = 0;
            bonuses = 0;
            rides = 0;
            lost = 0;
            turnedAway = 0;
            riders.count = 0;
            System.arraycopy(city.bikes, 0, bikes, 0, MOST_STATIONS);
            Arrays.fill(broken, 0);
            Arrays.fill(pairRides, 0);
            Arrays.fill(pairFirst, 0);
            for (int i = 0; i < MOST_TRUCKS; i++) {
                trucks[i].begin(city.truckHome[i], city.truckCapacity[i]);
            }
        }

        void copy(State other) {
            city = other.city;
            time = other.time;
            fares = other.fares;
            bonuses = other.bonuses;
            rides = other.rides;
            lost = other.lost;
            turnedAway = other.turnedAway;
            riders.copy(other.riders);
            System.arraycopy(other.bikes, 0, bikes, 0, MOST_STATIONS);
            System.arraycopy(other.broken, 0, broken, 0, MOST_STATIONS);
            System.arraycopy(other.pairRides, 0, pairRides, 0, pairRides.length);
            System.arraycopy(other.pairFirst, 0, pairFirst, 0, pairFirst.length);
            for (int i = 0; i < MOST_TRUCKS; i++) {
                trucks[i].copy(other.trucks[i]);
            }
        }

        // -- stations

        int working(int station) {
            return city.docks[station] - broken[station];
        }

        int free(int station) {
            return city.docks[station] - broken[station] - bikes[station];
        }

        int mark(int station) {
            return working(station) * city.balancePercent / 100;
        }

        /** The bikes and the free docks that are missing to the mark. */
        int missing(int station) {
            int mark = mark(station);
            return Math.max(0, mark - bikes[station]) + Math.max(0, mark - free(station));
        }

        boolean isOut(int station, boolean docks) {
            return (docks ? free(station) : bikes[station]) == 0;
        }

        int nearestOther(int station, boolean dock) {
            int found = NONE;
            int least = 0;
            for (int i = 0; i < city.stations; i++) {
                if (i == station || (dock ? free(i) : bikes[i]) == 0) {
                    continue;
                }
                int distance = city.distance(station, i);
                if (found == NONE || distance < least) {
                    found = i;
                    least = distance;
                }
            }
            return found;
        }

        int bonusNow(int station) {
            return bikes[station] * 100 < city.bonusPercent * working(station) ? city.bonusCents : 0;
        }

        // -- totals

        int sum(int what) {
            switch (what) {
                case 0:
                    return fares;
                case 1:
                    return bonuses;
                case 2:
                    return rides;
                case 3:
                    return lost;
                case 4:
                    return turnedAway;
                default:
                    return truckBikes();
            }
        }

        private int truckBikes() {
            int sum = 0;
            for (int i = 0; i < city.trucks; i++) {
                sum += trucks[i].load;
            }
            return sum;
        }

        int allBikes() {
            int sum = truckBikes() + riders.count;
            for (int i = 0; i < city.stations; i++) {
                sum += bikes[i];
            }
            return sum;
        }

        int busiest() {
            int found = NONE;
            for (int i = 0; i < pairRides.length; i++) {
                if (pairRides[i] > 0 && (found == NONE || isBusier(i, found))) {
                    found = i;
                }
            }
            return found;
        }

        private boolean isBusier(int pair, int other) {
            return pairRides[pair] > pairRides[other]
                    || pairRides[pair] == pairRides[other] && pairFirst[pair] < pairFirst[other];
        }

        // -- rides

        int fareNow(int from, int to) {
            int minutes = city.riderMinutes(from, to);
            int fare = city.fare.worth(minutes, bikes[from], free(to), time / 60 % 24);
            return Math.max(0, Math.min(MOST_FARE, fare));
        }

        boolean canRide(int from) {
            return bikes[from] > 0 && rides < MOST_RIDES;
        }

        void startRide(int from, int to) {
            int pair = MOST_STATIONS * from + to;
            if (pairRides[pair] == 0) {
                pairFirst[pair] = rides;
            }
            pairRides[pair]++;
            fares += fareNow(from, to);
            bikes[from]--;
            riders.add(Riders.code(time + city.riderMinutes(from, to), rides, from, to));
            rides++;
        }

        /** Lets the riders arrive whose time has come, and returns how many rides end. */
        private int landRiders() {
            int arriving = riders.arrivedBy(time);
            int goingOn = 0;
            for (int i = 0; i < arriving; i++) {
                int code = riders.codes[i];
                int station = Riders.target(code);
                if (free(station) > 0) {
                    bonuses += bonusNow(station);
                    bikes[station]++;
                } else {
                    riders.codes[goingOn] = turnAway(code, station);
                    goingOn++;
                }
            }
            riders.keepOfFront(arriving, goingOn);
            return arriving - goingOn;
        }

        private int turnAway(int code, int station) {
            turnedAway++;
            int other = nearestOther(station, true);
            if (other == NONE) {
                return Riders.redirected(code, time + 1, station);
            }
            return Riders.redirected(code, time + city.riderMinutes(station, other), other);
        }

        // -- trucks

        void goOn(Truck truck) {
            for (int left = truck.orders; left > 0 && !truck.drives(); left--) {
                int station = truck.orderStation[0];
                int target = truck.orderTarget[0];
                truck.dropFirstOrder();
                if (station == truck.place) {
                    carryOut(truck, target);
                } else {
                    truck.due = time + city.truckMinutes(truck.place, station);
                    truck.place = station;
                    truck.goal = target;
                }
            }
        }

        private void carryOut(Truck truck, int target) {
            int station = truck.place;
            int wanted = target - bikes[station];
            int put = wanted > 0
                    ? Math.min(wanted, Math.min(truck.load, free(station)))
                    : -Math.min(-wanted, truck.capacity - truck.load);
            bikes[station] += put;
            truck.load -= put;
        }

        private void arrive(Truck truck) {
            truck.due = NONE;
            carryOut(truck, truck.goal);
            goOn(truck);
        }

        // -- minutes

        /** Lets minutes pass and returns how many rides end in them. */
        int advance(int minutes) {
            int ended = 0;
            int next = nextEvent();
            for (int left = minutes; left > 0; left--) {
                time++;
                if (time >= next) {
                    ended += happen();
                    next = nextEvent();
                }
            }
            return ended;
        }

        int minutesUntilOut(int station, boolean docks) {
            if (isOut(station, docks)) {
                return 0;
            }
            int next = nextEvent();
            for (int passed = 1; passed <= DAY; passed++) {
                time++;
                if (time >= next) {
                    happen();
                    if (isOut(station, docks)) {
                        return passed;
                    }
                    next = nextEvent();
                }
            }
            return NONE;
        }

        /** The next time at which something happens: the minutes before it need no look. */
        private int nextEvent() {
            int next = riders.count > 0 ? Riders.arrival(riders.codes[0]) : NEVER;
            for (int i = 0; i < city.trucks; i++) {
                if (trucks[i].drives()) {
                    next = Math.min(next, trucks[i].due);
                }
            }
            int soonest = time + 1;
            int minute = soonest % DAY;
            for (int i = 0; i < city.trips; i++) {
                int wait = city.tripMinute[i] - minute;
                next = Math.min(next, soonest + (wait < 0 ? wait + DAY : wait));
            }
            return next;
        }

        private int happen() {
            for (int i = 0; i < city.trucks; i++) {
                if (trucks[i].due == time) {
                    arrive(trucks[i]);
                }
            }
            int ended = landRiders();
            int minute = time % DAY;
            for (int i = 0; i < city.trips; i++) {
                if (city.tripMinute[i] != minute) {
                    continue;
                }
                if (canRide(city.tripFrom[i])) {
                    startRide(city.tripFrom[i], city.tripTo[i]);
                } else {
                    lost++;
                }
            }
            return ended;
        }
    }

    /** The states before the latest changes, the oldest given up for the newest. */
    private static final class History {
        final State[] past = new State[UNDO_DEPTH];
        int first;
        int count;

        void clear() {
            count = 0;
        }

        void remember(State state) {
            int place = (first + count) % UNDO_DEPTH;
            if (count < UNDO_DEPTH) {
                count++;
            } else {
                first = (first + 1) % UNDO_DEPTH;
            }
            // Made when it is first needed: most objects never need all of them.
            if (past[place] == null) {
                past[place] = new State(state.city);
            }
            past[place].copy(state);
        }

        boolean takeBack(State state) {
            if (count == 0) {
                return false;
            }
            count--;
            State latest = past[(first + count) % UNDO_DEPTH];
            if (latest == null) {
                return false;
            }
            state.copy(latest);
            return true;
        }
    }

    /** The search for the best tour of a truck, through the sequences of stations in their order. */
    private static final class Tour {
        final int[] best = new int[MOST_STATIONS];
        final int[] path = new int[MOST_STATIONS];
        // The fewest and the most bikes that a stop may add to the load, to be balanced then.
        final int[] leastGain = new int[MOST_STATIONS];
        final int[] mostGain = new int[MOST_STATIONS];
        // The fewest minutes in which a station that must be visited is reached from another.
        final int[] leastWay = new int[MOST_STATIONS];
        // For each set of visited stations the loads, a bit each, that lead to no tour.
        final int[] hopeless = new int[1 << MOST_STATIONS];
        City city;
        int home;
        int capacity;
        int unbalanced;
        int bestMinutes;
        int bestStops;

        void search(State state, Truck truck) {
            city = state.city;
            home = truck.place;
            capacity = truck.capacity;
            unbalanced = 0;
            bestMinutes = NONE;
            bestStops = 0;
            Arrays.fill(hopeless, 0);
            int owed = 0;
            for (int i = 0; i < city.stations; i++) {
                prepare(state, i);
                owed += leastWay[i];
            }
            visit(0, home, 0, truck.load, truck.load, owed);
        }

        private void prepare(State state, int station) {
            int mark = state.mark(station);
            leastGain[station] = mark - state.free(station);
            mostGain[station] = state.bikes[station] - mark;
            leastWay[station] = 0;
            if (state.missing(station) > 0) {
                unbalanced |= 1 << station;
                leastWay[station] = leastMinutesTo(station);
            }
        }

        private int leastMinutesTo(int station) {
            int least = 0;
            for (int i = 0; i < city.stations; i++) {
                if (i != station && (least == 0 || city.truckMinutes(i, station) < least)) {
                    least = city.truckMinutes(i, station);
                }
            }
            return least;
        }

        /**
         * Goes on from a path whose stops are visited, with a load between low and high; bound is
         * its minutes with the fewest that the unbalanced stations not visited cost.
         */
        private void visit(int stops, int place, int visited, int low, int high, int bound) {
            if ((unbalanced & ~visited) == 0) {
                keepPath(stops, bound);
                return;
            }
            for (int i = 0; i < city.stations && stops < MOST_STATIONS; i++) {
                int then = visited | 1 << i;
                int nextLow = Math.max(0, low + leastGain[i]);
                int nextHigh = Math.min(capacity, high + mostGain[i]);
                if (then == visited || nextLow > nextHigh
                        || (loads(nextLow, nextHigh) & ~hopeless[then]) == 0) {
                    continue;
                }
                int nextBound = bound + minutesTo(stops, place, i) - leastWay[i];
                if (mayBeBest(stops + 1, then, nextBound)) {
                    path[stops] = i;
                    visit(stops + 1, i, then, nextLow, nextHigh, nextBound);
                }
            }
            // While no tour is known nothing is left out as too long, so all ways on have failed.
            if (bestMinutes == NONE) {
                hopeless[visited] |= loads(low, high);
            }
        }

        private int minutesTo(int stops, int place, int station) {
            return stops == 0 && station == home ? 0 : city.truckMinutes(place, station);
        }

        private static int loads(int low, int high) {
            return (2 << high) - (1 << low);
        }

        /** Paths come in lexicographic order, so one that is only as good comes too late. */
        private boolean mayBeBest(int stops, int visited, int bound) {
            int leastStops = stops + Integer.bitCount(unbalanced & ~visited);
            return bestMinutes == NONE || bound < bestMinutes
                    || bound == bestMinutes && leastStops < bestStops;
        }

        private void keepPath(int stops, int minutes) {
            bestMinutes = minutes;
            bestStops = stops;
            System.arraycopy(path, 0, best, 0, stops);
        }
    }
}
