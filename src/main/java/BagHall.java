/**
 * A baggage hall: bags are screened, routed by flight and time, loaded, matched with riders when
 * their flight departs, offloaded and sent on; each move is scanned.
 *
 * <p>Flights, bags and scans are numbered from 0, and each of their traits stands in a row under
 * that number.
 */
public final class BagHall {
    public static final int NONE = -1;
    public static final int SCREEN_1 = 1, SCREEN_2 = 2, SCREEN_3 = 3, HELD = 4, STORE = 5, LOOP = 6, LATERAL = 7, LOADED = 8, FLOWN = 9, OFFLOADED = 10, LATE = 11;

    private static final int MAX_FLIGHTS = 10;
    private static final int MAX_BAGS = 48;
    private static final int RIDERS = 40;
    private static final int LATERALS = 4;
    private static final int STORE_ROOM = 8;
    private static final int OUT_OF_STORE_A_MINUTE = 3;

    private static final int LONGEST_UNTIL_DEPARTURE = 1000;
    private static final int LONGEST_PASS = 200;
    private static final int OPENS_BEFORE_DEPARTURE = 60;
    private static final int CLOSES_BEFORE_DEPARTURE = 10;
    private static final int APART_AT_A_LATERAL = 60;

    /** Where the bags stand that have not come into the hall yet; no place of the document. */
    private static final int OUTSIDE = 0;

    /**
     * An object is used for 512 calls. A call scans one bag at most, and the minutes that pass then
     * scan this bag three times at most before another call must move it (from the LOOP to the
     * STORE, to the LATERAL, to LATE): four scans a call.
     */
    private static final int MAX_SCANS = 4 * 512;

    private int now;

    private int flightCount;
    private final int[] departures = new int[MAX_FLIGHTS];
    private final int[] laterals = new int[MAX_FLIGHTS];

    private final boolean[] boarded = new boolean[RIDERS];

    private int bagCount;
    private final int[] bagFlights = new int[MAX_BAGS];
    private final int[] bagRiders = new int[MAX_BAGS];
    private final boolean[] onPurpose = new boolean[MAX_BAGS];
    private final int[] bagPlaces = new int[MAX_BAGS];
    private final int[] lastScans = new int[MAX_BAGS];
    private final int[] cameAt = new int[MAX_BAGS];

    /** How many bags are at each place: a minute with an empty STORE and LOOP then costs little. */
    private final int[] bagsAt = new int[LATE + 1];

    private int scanCount;
    private final int[] scanBags = new int[MAX_SCANS];
    private final int[] scanPlaces = new int[MAX_SCANS];
    private final int[] scanTimes = new int[MAX_SCANS];

    public BagHall() {
        bagsAt[OUTSIDE] = MAX_BAGS;
    }

    // ---- flights, riders, time

    public int addFlight(int minutes) throws IllegalArgumentException, IllegalStateException {
        if (minutes < 1 || minutes > LONGEST_UNTIL_DEPARTURE) {
            throw new IllegalArgumentException("minutes must be 1 to 1000");
        }
        if (flightCount >= MAX_FLIGHTS) {
            throw new IllegalStateException("there are 10 flights");
        }
        int flight = flightCount;
        int departure = now + minutes;
        laterals[flight] = lowestFreeLateral(departure);
        departures[flight] = departure;
        flightCount++;
        return flight;
    }

    public boolean board(int rider, boolean hasBoarded) throws IndexOutOfBoundsException {
        requireRider(rider);
        boolean had = boarded[rider];
        boarded[rider] = hasBoarded;
        return had;
    }

    public int pass(int minutes) throws IllegalArgumentException {
        if (minutes < 1 || minutes > LONGEST_PASS) {
            throw new IllegalArgumentException("minutes must be 1 to 200");
        }
        int before = scanCount;
        for (int minute = 0; minute < minutes; minute++) {
            passOneMinute();
        }
        return scanCount - before;
    }

    public int time() {
        return now;
    }

    public int lateralOf(int flight) throws IndexOutOfBoundsException {
        requireFlight(flight);
        return laterals[flight];
    }

    // ---- bags

    public int checkIn(int flight, int rider) throws IndexOutOfBoundsException, IllegalStateException {
        int bag = takeIn(flight, rider);
        bring(bag, SCREEN_1);
        return bag;
    }

    public int transfer(int flight, int rider) throws IndexOutOfBoundsException, IllegalStateException {
        int bag = takeIn(flight, rider);
        route(bag);
        return bag;
    }

    public int decide(int bag, boolean isClear) throws IndexOutOfBoundsException, IllegalStateException {
        requireBag(bag);
        int place = bagPlaces[bag];
        if (place != SCREEN_1 && place != SCREEN_2 && place != SCREEN_3) {
            throw new IllegalStateException("the bag is not screened");
        }
        if (now - cameAt[bag] < decisionTime(place)) {
            throw new IllegalStateException("the decision takes longer");
        }
        if (isClear) {
            route(bag);
        } else {
            bring(bag, nextLevel(place));
        }
        return bagPlaces[bag];
    }

    public int letGo(int bag) throws IndexOutOfBoundsException, IllegalStateException {
        requireBag(bag);
        requirePlace(bag, HELD);
        route(bag);
        return bagPlaces[bag];
    }

    public int load(int bag) throws IndexOutOfBoundsException, IllegalStateException {
        requireBag(bag);
        requirePlace(bag, LATERAL);
        bring(bag, LOADED);
        return loadedBags(bagFlights[bag]);
    }

    public int offload(int bag) throws IndexOutOfBoundsException, IllegalStateException {
        requireBag(bag);
        requirePlace(bag, LOADED);
        bring(bag, OFFLOADED);
        return loadedBags(bagFlights[bag]);
    }

    public int sendOn(int bag, int flight) throws IndexOutOfBoundsException, IllegalStateException {
        requireBag(bag);
        requireFlight(flight);
        if (bagPlaces[bag] != OFFLOADED && bagPlaces[bag] != LATE) {
            throw new IllegalStateException("the bag is neither OFFLOADED nor LATE");
        }
        requireNotDeparted(flight);
        bagFlights[bag] = flight;
        onPurpose[bag] = true;
        route(bag);
        return bagPlaces[bag];
    }

    public int bags() {
        return bagCount;
    }

    public int placeOf(int bag) throws IndexOutOfBoundsException {
        requireBag(bag);
        return bagPlaces[bag];
    }

    public int placeByScans(int bag, int time) throws IndexOutOfBoundsException, IllegalArgumentException {
        requireBag(bag);
        if (time < 0 || time > now) {
            throw new IllegalArgumentException("time must be 0 to now");
        }
        for (int scan = scanCount - 1; scan >= 0; scan--) {
            if (scanBags[scan] == bag && scanTimes[scan] <= time) {
                return scanPlaces[scan];
            }
        }
        return NONE;
    }

    public int flightOf(int bag) throws IndexOutOfBoundsException {
        requireBag(bag);
        return bagFlights[bag];
    }

    // ---- counts

    public int count(int place) throws IllegalArgumentException {
        if (place < SCREEN_1 || place > LATE) {
            throw new IllegalArgumentException("there is no such place");
        }
        return bagsAt[place];
    }

    public int atLateral(int lateral) throws IndexOutOfBoundsException {
        if (lateral < 0 || lateral >= LATERALS) {
            throw new IndexOutOfBoundsException("there is no such lateral");
        }
        int found = 0;
        for (int bag = 0; bag < bagCount; bag++) {
            if (bagPlaces[bag] == LATERAL && laterals[bagFlights[bag]] == lateral) {
                found++;
            }
        }
        return found;
    }

    public int unmatched(int flight) throws IndexOutOfBoundsException {
        requireFlight(flight);
        int found = 0;
        for (int bag = 0; bag < bagCount; bag++) {
            if (isLoadedFor(bag, flight) && !mayFly(bag)) {
                found++;
            }
        }
        return found;
    }

    public int untilClose(int flight) throws IndexOutOfBoundsException {
        requireFlight(flight);
        return Math.max(0, closing(flight) - now);
    }

    public int scans() {
        return scanCount;
    }

    public int bagOfScan(int scan) throws IndexOutOfBoundsException {
        requireScan(scan);
        return scanBags[scan];
    }

    public int placeOfScan(int scan) throws IndexOutOfBoundsException {
        requireScan(scan);
        return scanPlaces[scan];
    }

    // ---- what calls need

    private void requireFlight(int flight) {
        if (flight < 0 || flight >= flightCount) {
            throw new IndexOutOfBoundsException("there is no such flight");
        }
    }

    private void requireRider(int rider) {
        if (rider < 0 || rider >= RIDERS) {
            throw new IndexOutOfBoundsException("there is no such rider");
        }
    }

    private void requireBag(int bag) {
        if (bag < 0 || bag >= bagCount) {
            throw new IndexOutOfBoundsException("there is no such bag");
        }
    }

    private void requireScan(int scan) {
        if (scan < 0 || scan >= scanCount) {
            throw new IndexOutOfBoundsException("there is no such scan");
        }
    }

    private void requirePlace(int bag, int place) {
        if (bagPlaces[bag] != place) {
            throw new IllegalStateException("the bag is at another place");
        }
    }

    private void requireNotDeparted(int flight) {
        if (now >= departures[flight]) {
            throw new IllegalStateException("the flight has departed");
        }
    }

    // ---- flights

    private int lowestFreeLateral(int departure) {
        for (int lateral = 0; lateral < LATERALS; lateral++) {
            if (isFree(lateral, departure)) {
                return lateral;
            }
        }
        return NONE;
    }

    private boolean isFree(int lateral, int departure) {
        for (int flight = 0; flight < flightCount; flight++) {
            if (laterals[flight] == lateral && Math.abs(departures[flight] - departure) < APART_AT_A_LATERAL) {
                return false;
            }
        }
        return true;
    }

    private int closing(int flight) {
        return departures[flight] - CLOSES_BEFORE_DEPARTURE;
    }

    private boolean hasClosed(int flight) {
        return now >= closing(flight);
    }

    private boolean hasOpened(int flight) {
        return now >= departures[flight] - OPENS_BEFORE_DEPARTURE;
    }

    private int loadedBags(int flight) {
        int found = 0;
        for (int bag = 0; bag < bagCount; bag++) {
            if (isLoadedFor(bag, flight)) {
                found++;
            }
        }
        return found;
    }

    private boolean isLoadedFor(int bag, int flight) {
        return bagPlaces[bag] == LOADED && bagFlights[bag] == flight;
    }

    private boolean mayFly(int bag) {
        return onPurpose[bag] || boarded[bagRiders[bag]];
    }

    // ---- screening

    private static int decisionTime(int level) {
        if (level == SCREEN_1) {
            return 2;
        }
        return level == SCREEN_2 ? 4 : 10;
    }

    private static int nextLevel(int level) {
        if (level == SCREEN_1) {
            return SCREEN_2;
        }
        return level == SCREEN_2 ? SCREEN_3 : HELD;
    }

    // ---- moves

    /** Gives a new bag its number; it is still to be brought to its first place. */
    private int takeIn(int flight, int rider) {
        requireFlight(flight);
        requireRider(rider);
        if (bagCount >= MAX_BAGS) {
            throw new IllegalStateException("there are 48 bags");
        }
        requireNotDeparted(flight);
        int bag = bagCount;
        bagFlights[bag] = flight;
        bagRiders[bag] = rider;
        bagPlaces[bag] = OUTSIDE;
        bagCount++;
        return bag;
    }

    private void route(int bag) {
        int place = routeTo(bagFlights[bag]);
        if (place == LOOP && bagPlaces[bag] == LOOP) {
            return;
        }
        bring(bag, place);
    }

    private int routeTo(int flight) {
        if (hasClosed(flight) || laterals[flight] == NONE) {
            return LATE;
        }
        if (hasOpened(flight)) {
            return LATERAL;
        }
        return bagsAt[STORE] < STORE_ROOM ? STORE : LOOP;
    }

    private void bring(int bag, int place) {
        bagsAt[bagPlaces[bag]]--;
        bagsAt[place]++;
        bagPlaces[bag] = place;
        cameAt[bag] = now;
        lastScans[bag] = scanCount;
        scan(bag, place);
    }

    private void scan(int bag, int place) {
        // Only behind the 512th call, where answers are free, can the rows be full.
        if (scanCount >= MAX_SCANS) {
            return;
        }
        scanBags[scanCount] = bag;
        scanPlaces[scanCount] = place;
        scanTimes[scanCount] = now;
        scanCount++;
    }

    // ---- a minute

    private void passOneMinute() {
        now++;
        emptyStore();
        routeLoop();
        depart();
    }

    private void emptyStore() {
        for (int gone = 0; gone < OUT_OF_STORE_A_MINUTE; gone++) {
            int bag = firstToLeaveStore();
            if (bag == NONE) {
                return;
            }
            bring(bag, LATERAL);
        }
    }

    /** Of the bags in the STORE whose flight has opened, the one that came first: its scan is the oldest. */
    private int firstToLeaveStore() {
        if (bagsAt[STORE] == 0) {
            return NONE;
        }
        int first = NONE;
        for (int bag = 0; bag < bagCount; bag++) {
            if (bagPlaces[bag] == STORE && hasOpened(bagFlights[bag])
                    && (first == NONE || lastScans[bag] < lastScans[first])) {
                first = bag;
            }
        }
        return first;
    }

    private void routeLoop() {
        if (bagsAt[LOOP] == 0) {
            return;
        }
        for (int bag = 0; bag < bagCount; bag++) {
            if (bagPlaces[bag] == LOOP) {
                route(bag);
            }
        }
    }

    private void depart() {
        for (int flight = 0; flight < flightCount; flight++) {
            if (departures[flight] == now) {
                settleBags(flight);
            }
        }
    }

    private void settleBags(int flight) {
        for (int bag = 0; bag < bagCount; bag++) {
            if (bagFlights[bag] == flight) {
                settle(bag);
            }
        }
    }

    private void settle(int bag) {
        int place = bagPlaces[bag];
        if (place == LOADED) {
            bring(bag, mayFly(bag) ? FLOWN : OFFLOADED);
        } else if (place == STORE || place == LOOP || place == LATERAL) {
            bring(bag, LATE);
        }
    }
}
