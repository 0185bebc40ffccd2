/** The sentences of promises 1 to 24 that name a boundary case: ranges, first and last ids, empty and full halls. */
public final class CallEdgeTest {
    private static final int MIN = Integer.MIN_VALUE;
    private static final int MAX = Integer.MAX_VALUE;

    public static void main(String[] args) {
        promise1EmptyHall();
        promise1HallsShareNothing();
        promise2Range();
        promise2LastFlight();
        promise2OneMinute();
        promise3LastRider();
        promise4Range();
        promise4OneAfterTheOther();
        promises7And8FirstAndLastOfAll();
        promises7And8LastBag();
        promises7And8LastMinute();
        promises7And8WhichException();
        promise9Times();
        promise9BehindTheDeparture();
        promise9EachBagItsOwnTime();
        promise9NoSuchBag();
        promises9To13FullHall();
        promises11And12TillTheDeparture();
        promises11And12OfItsFlightAlone();
        promise13FirstAndLastFlight();
        promise13WhichException();
        promise13OnPurpose();
        promise16Range();
        promise16EachTime();
        promise16AtTheDeparture();
        promise17FlightThatItHasNow();
        promises18And19OneOfAll();
        promise20BagsNotRiders();
        promise20WhateverTheWay();
        promise21LastMinutes();
        promises23And24Range();
        Check.end("CallEdgeTest");
    }

    /** "Opens an empty hall": nothing has a number yet. */
    private static void promise1EmptyHall() {
        BagHall hall = new BagHall();
        noFlight(hall, 0);
        noBag(hall, 0);
        noScan(hall, 0);
        hall.addFlight(50);
        noFlight(hall, 1);
        noBag(hall, 0);
        noScan(hall, 0);
        Check.noIndex("sendOn(0, 0) without bags", hall, () -> hall.sendOn(0, 0));
        Check.equal("pass(200) without bags", 0, hall.pass(200));
        noBag(hall, 0);
        noScan(hall, 0);
    }

    private static void noFlight(BagHall hall, int flight) {
        String which = "(" + flight + ") with no such flight";
        Check.noIndex("checkIn" + which, hall, () -> hall.checkIn(flight, 0));
        Check.noIndex("transfer" + which, hall, () -> hall.transfer(flight, 0));
        Check.noIndex("lateralOf" + which, hall, () -> hall.lateralOf(flight));
        Check.noIndex("unmatched" + which, hall, () -> hall.unmatched(flight));
        Check.noIndex("untilClose" + which, hall, () -> hall.untilClose(flight));
        Check.noIndex("sendOn" + which, hall, () -> hall.sendOn(0, flight));
    }

    private static void noBag(BagHall hall, int bag) {
        String which = "(" + bag + ") with no such bag";
        Check.noIndex("decide clear" + which, hall, () -> hall.decide(bag, true));
        Check.noIndex("decide not clear" + which, hall, () -> hall.decide(bag, false));
        Check.noIndex("letGo" + which, hall, () -> hall.letGo(bag));
        Check.noIndex("load" + which, hall, () -> hall.load(bag));
        Check.noIndex("offload" + which, hall, () -> hall.offload(bag));
        Check.noIndex("sendOn" + which, hall, () -> hall.sendOn(bag, 0));
        Check.noIndex("placeOf" + which, hall, () -> hall.placeOf(bag));
        Check.noIndex("placeByScans" + which, hall, () -> hall.placeByScans(bag, 0));
        Check.noIndex("placeByScans behind now" + which, hall, () -> hall.placeByScans(bag, hall.time() + 1));
        Check.noIndex("flightOf" + which, hall, () -> hall.flightOf(bag));
    }

    private static void noScan(BagHall hall, int scan) {
        Check.noIndex("bagOfScan(" + scan + ")", hall, () -> hall.bagOfScan(scan));
        Check.noIndex("placeOfScan(" + scan + ")", hall, () -> hall.placeOfScan(scan));
    }

    private static void promise1HallsShareNothing() {
        BagHall first = Halls.everyPlace();
        String before = Check.stateOf(first);
        BagHall second = new BagHall();
        Check.equal("time() of the second hall", 0, second.time());
        Check.isFalse("board(0, true) in the second hall", second.board(0, true));
        Halls.addFlights(second, 500, 40, 30, 20, 11);
        Halls.transfer(second, 0, 48);
        second.board(9, true);
        second.pass(200);
        Check.equal("the first hall", before, Check.stateOf(first));
        Check.equal("the second hall beside a third one", 48, second.bags());
        Check.equal("the third hall", 0, new BagHall().bags());
        Check.equal("untilClose(0) of the second hall", 290, second.untilClose(0));
    }

    /** "1 to 1000: how long from now it departs", at the beginning and later. */
    private static void promise2Range() {
        int[] taken = {1, 2, 10, 999, 1000};
        int[] refused = {0, -1, 1001, 1002, MIN, MAX};
        for (int begin = 0; begin <= 400; begin += 200) {
            for (int minutes : taken) {
                BagHall hall = new BagHall();
                Check.passLong(hall, begin);
                Check.equal("addFlight(" + minutes + ") at " + begin, 0, hall.addFlight(minutes));
                Check.equal("untilClose(0) then", Math.max(0, minutes - 10), hall.untilClose(0));
            }
            BagHall hall = new BagHall();
            Check.passLong(hall, begin);
            for (int minutes : refused) {
                Check.noArgument("addFlight(" + minutes + ") at " + begin, hall, () -> hall.addFlight(minutes));
            }
            for (int flight = 0; flight < 4; flight++) {
                Check.equal("addFlight(100) behind refused ones", flight, hall.addFlight(100));
                Check.equal("its lateral", flight, hall.lateralOf(flight));
            }
        }
    }

    /** "if there are 10 flights": the 10th is taken, the 11th is not, nor when all have departed. */
    private static void promise2LastFlight() {
        BagHall hall = new BagHall();
        for (int flight = 0; flight < 9; flight++) {
            hall.addFlight(20);
        }
        Check.equal("addFlight(20) as the 10th", 9, hall.addFlight(20));
        Check.noState("addFlight(20) as the 11th", hall, () -> hall.addFlight(20));
        Check.noState("addFlight(1) as the 11th", hall, () -> hall.addFlight(1));
        Check.noState("addFlight(1000) as the 11th", hall, () -> hall.addFlight(1000));
        Check.noArgument("addFlight(0) as the 11th", hall, () -> hall.addFlight(0));
        Check.noArgument("addFlight(1001) as the 11th", hall, () -> hall.addFlight(1001));
        noFlight(hall, 10);
        Check.equal("lateralOf(9)", BagHall.NONE, hall.lateralOf(9));
        hall.pass(19);
        Check.equal("refused ones put no departure off: a minute before it", 0, hall.checkIn(0, 0));
        Check.equal("and of the last flight", 1, hall.checkIn(9, 0));
        hall.pass(1);
        Check.noState("checkIn(0, 0) at the departure", hall, () -> hall.checkIn(0, 0));
        Check.noState("checkIn(9, 0) at the departure", hall, () -> hall.checkIn(9, 0));
        Check.noState("addFlight(20), when all have departed", hall, () -> hall.addFlight(20));
        Check.equal("lateralOf(0), when it has departed", 0, hall.lateralOf(0));
        Check.equal("unmatched(9), when it has departed", 0, hall.unmatched(9));
        Check.equal("untilClose(9), when it has departed", 0, hall.untilClose(9));
    }

    /** The shortest way to a departure. */
    private static void promise2OneMinute() {
        BagHall hall = Halls.withFlights(1);
        Check.equal("checkIn(0, 0)", 0, hall.checkIn(0, 0));
        Check.equal("transfer(0, 0)", 1, hall.transfer(0, 0));
        Check.equal("placeOf(1)", BagHall.LATE, hall.placeOf(1));
        Check.equal("pass(1)", 0, hall.pass(1));
        Check.noState("checkIn(0, 0) then", hall, () -> hall.checkIn(0, 0));
        Check.noState("transfer(0, 0) then", hall, () -> hall.transfer(0, 0));
        Check.noState("sendOn(1, 0) then", hall, () -> hall.sendOn(1, 0));
    }

    /** "0 to 39": the first and the last rider, and none beside them. */
    private static void promise3LastRider() {
        for (int rider = 0; rider < 40; rider++) {
            BagHall hall = new BagHall();
            Check.isFalse("board(" + rider + ", true)", hall.board(rider, true));
            for (int other = 0; other < 40; other++) {
                boolean had = hall.board(other, false);
                Check.equal("board(" + other + ", false) when " + rider + " has", other == rider ? 1 : 0, had ? 1 : 0);
            }
            Check.isFalse("board(" + rider + ", false) again", hall.board(rider, false));
        }
        BagHall hall = new BagHall();
        int[] noRiders = {-1, 40, MIN, MAX};
        for (int rider : noRiders) {
            Check.noIndex("board(" + rider + ", true)", hall, () -> hall.board(rider, true));
            Check.noIndex("board(" + rider + ", false)", hall, () -> hall.board(rider, false));
        }
        Check.isFalse("board(0, true) behind refused ones", hall.board(0, true));
        Check.isFalse("board(39, true) behind refused ones", hall.board(39, true));
    }

    /** "1 to 200": a refused one lets no minute pass, though something were due in it. */
    private static void promise4Range() {
        int[] taken = {1, 2, 100, 199, 200};
        for (int minutes : taken) {
            BagHall hall = new BagHall();
            Check.equal("pass(" + minutes + ")", 0, hall.pass(minutes));
            Check.equal("time() then", minutes, hall.time());
        }
        int[] refused = {0, -1, 201, 202, MIN, MAX};
        BagHall hall = Halls.withFlights(61);
        hall.transfer(0, 0);
        for (int minutes : refused) {
            Check.noArgument("pass(" + minutes + ")", hall, () -> hall.pass(minutes));
        }
        Check.equal("pass(1) behind refused ones", 1, hall.pass(1));
    }

    /** "Lets minutes pass, one after the other": 200 at once are 200 times one. */
    private static void promise4OneAfterTheOther() {
        int[] flights = {40, 75, 75, 101, 120, 161, 180, 199, 200, 201};
        BagHall atOnce = Halls.withFlights(flights);
        BagHall oneByOne = Halls.withFlights(flights);
        for (int bag = 0; bag < 48; bag++) {
            atOnce.transfer(bag * 7 % 10, bag % 40);
            oneByOne.transfer(bag * 7 % 10, bag % 40);
        }
        int scans = 0;
        for (int minute = 0; minute < 200; minute++) {
            scans += oneByOne.pass(1);
        }
        Check.equal("pass(200)", scans, atOnce.pass(200));
        Check.equal("the state", Check.stateOf(oneByOne), Check.stateOf(atOnce));
        for (int bag = 0; bag < 48; bag++) {
            for (int time = 0; time <= 200; time++) {
                Check.equal("placeByScans(" + bag + ", " + time + ")", oneByOne.placeByScans(bag, time), atOnce.placeByScans(bag, time));
            }
        }
    }

    private static void promises7And8FirstAndLastOfAll() {
        int[] flights = {0, 9};
        int[] riders = {0, 39};
        BagHall hall = new BagHall();
        for (int flight = 0; flight < 10; flight++) {
            hall.addFlight(60 * flight + 60);
        }
        int bag = 0;
        for (int flight : flights) {
            for (int rider : riders) {
                Check.equal("checkIn(" + flight + ", " + rider + ")", bag, hall.checkIn(flight, rider));
                Check.equal("placeOf(" + bag + ")", BagHall.SCREEN_1, hall.placeOf(bag));
                Check.equal("flightOf(" + bag + ")", flight, hall.flightOf(bag++));
                Check.equal("transfer(" + flight + ", " + rider + ")", bag, hall.transfer(flight, rider));
                Check.equal("placeOf(" + bag + ")", flight == 0 ? BagHall.LATERAL : BagHall.STORE, hall.placeOf(bag));
                Check.equal("flightOf(" + bag + ")", flight, hall.flightOf(bag++));
            }
        }
        hall.load(1);
        hall.load(3);
        hall.board(39, true);
        Check.equal("unmatched(0): rider 0 alone has not boarded", 1, hall.unmatched(0));
        hall.pass(60);
        Check.equal("the bag of rider 0", BagHall.OFFLOADED, hall.placeOf(1));
        Check.equal("the bag of rider 39", BagHall.FLOWN, hall.placeOf(3));
    }

    /** "if there are 48 bags": the 48th is taken, the 49th is not, nor when bags have left. */
    private static void promises7And8LastBag() {
        for (int way = 0; way < 2; way++) {
            boolean isScreened = way == 0;
            BagHall hall = Halls.withFlights(50, 900);
            for (int bag = 0; bag < 48; bag++) {
                Check.equal("the number of bag " + bag, bag, isScreened ? hall.checkIn(0, 7) : hall.transfer(0, 7));
            }
            noRoomForABag(hall, 0);
            noRoomForABag(hall, 1);
            for (int bag = 0; bag < 48; bag++) {
                if (!isScreened) {
                    hall.load(bag);
                }
            }
            hall.board(7, true);
            hall.pass(50);
            Check.equal("count(FLOWN)", isScreened ? 0 : 48, hall.count(BagHall.FLOWN));
            noRoomForABag(hall, 0);
            noRoomForABag(hall, 1);
            noBag(hall, 48);
        }
    }

    private static void noRoomForABag(BagHall hall, int flight) {
        Check.noState("checkIn(" + flight + ", 0) as the 49th", hall, () -> hall.checkIn(flight, 0));
        Check.noState("transfer(" + flight + ", 0) as the 49th", hall, () -> hall.transfer(flight, 0));
    }

    /** "or the flight has departed": not a minute before, and from its departure on. */
    private static void promises7And8LastMinute() {
        int[] minutes = {1, 2, 11, 60, 61, 200};
        for (int departure : minutes) {
            BagHall hall = Halls.withFlights(departure);
            for (int minute = 1; minute < departure; minute++) {
                hall.pass(1);
            }
            Check.equal("checkIn a minute before " + departure, 0, hall.checkIn(0, 0));
            Check.equal("transfer a minute before " + departure, 1, hall.transfer(0, 0));
            Check.equal("its place", BagHall.LATE, hall.placeOf(1));
            Check.equal("sendOn a minute before " + departure, BagHall.LATE, hall.sendOn(1, 0));
            for (int minute = 0; minute < 3; minute++) {
                hall.pass(1);
                Check.noState("checkIn " + minute + " minutes behind " + departure, hall, () -> hall.checkIn(0, 0));
                Check.noState("transfer " + minute + " minutes behind " + departure, hall, () -> hall.transfer(0, 0));
                Check.noState("sendOn " + minute + " minutes behind " + departure, hall, () -> hall.sendOn(1, 0));
            }
        }
    }

    /** "If several exceptions .. apply, the one that is listed first": no flight or rider, then 48 bags, a departure. */
    private static void promises7And8WhichException() {
        int[] noRiders = {-1, 40, MIN, MAX};
        int[] noFlights = {-1, 3, 10, MIN, MAX};
        int[] flights = {0, 1, 2};
        for (int bags = 0; bags <= 48; bags += 48) {
            BagHall hall = Halls.withFlights(1, 50, 500);
            Halls.transfer(hall, 2, bags);
            hall.pass(1);
            for (int rider : noRiders) {
                for (int flight : flights) {
                    refusesToTakeIn(hall, flight, rider, IndexOutOfBoundsException.class);
                }
                for (int flight : noFlights) {
                    refusesToTakeIn(hall, flight, rider, IndexOutOfBoundsException.class);
                }
            }
            for (int flight : noFlights) {
                refusesToTakeIn(hall, flight, 0, IndexOutOfBoundsException.class);
                refusesToTakeIn(hall, flight, 39, IndexOutOfBoundsException.class);
            }
            refusesToTakeIn(hall, 0, 0, IllegalStateException.class);
            if (bags == 48) {
                refusesToTakeIn(hall, 1, 0, IllegalStateException.class);
            }
        }
    }

    private static void refusesToTakeIn(BagHall hall, int flight, int rider, Class<? extends RuntimeException> due) {
        String which = "(" + flight + ", " + rider + ") with " + hall.bags() + " bags";
        Check.refuses("checkIn" + which, hall, due, () -> hall.checkIn(flight, rider));
        Check.refuses("transfer" + which, hall, due, () -> hall.transfer(flight, rider));
    }

    /** "less than 2 minutes at SCREEN_1, 4 at SCREEN_2, 10 at SCREEN_3": a minute less, just that, and more. */
    private static void promise9Times() {
        int[] needed = {2, 4, 10};
        for (int level = 1; level <= 3; level++) {
            int[] waits = {needed[level - 1], needed[level - 1] + 1, needed[level - 1] + 7, 200};
            for (int wait : waits) {
                decideBehind(level, wait, true, BagHall.STORE);
                decideBehind(level, wait, false, level + 1);
            }
            for (int wait = 0; wait < needed[level - 1]; wait++) {
                BagHall hall = atLevel(level, 900, wait);
                Check.noState("decide(0, true) at level " + level + " behind " + wait, hall, () -> hall.decide(0, true));
                Check.noState("decide(0, false) at level " + level + " behind " + wait, hall, () -> hall.decide(0, false));
            }
        }
    }

    private static void decideBehind(int level, int wait, boolean isClear, int due) {
        BagHall hall = atLevel(level, 900, wait);
        Check.equal("decide(0, " + isClear + ") at level " + level + " behind " + wait, due, hall.decide(0, isClear));
        Check.equal("its place then", due, hall.placeOf(0));
        Check.equal("its scan", due, hall.placeOfScan(level));
        Check.equal("all scans", level + 1, hall.scans());
    }

    /** A hall with bag 0 on a level of screening for some minutes. */
    private static BagHall atLevel(int level, int untilDeparture, int wait) {
        BagHall hall = Halls.withFlights(untilDeparture);
        hall.checkIn(0, 0);
        int[] needed = {2, 4};
        for (int below = 1; below < level; below++) {
            hall.pass(needed[below - 1]);
            hall.decide(0, false);
        }
        if (wait > 0) {
            hall.pass(wait);
        }
        return hall;
    }

    /** A decision has no flight to ask: it is no refused call when the flight has closed or departed. */
    private static void promise9BehindTheDeparture() {
        int[] untilDeparture = {6, 1};
        for (int level = 1; level <= 3; level++) {
            for (int departure : untilDeparture) {
                Check.equal("clear at level " + level, BagHall.LATE, atLevel(level, departure, 20).decide(0, true));
                Check.equal("not clear at level " + level, level + 1, atLevel(level, departure, 20).decide(0, false));
            }
        }
    }

    /** "has been at its place for less than": of each bag, by itself. */
    private static void promise9EachBagItsOwnTime() {
        BagHall hall = Halls.withFlights(900);
        hall.checkIn(0, 0);
        hall.pass(1);
        hall.checkIn(0, 1);
        hall.pass(1);
        hall.checkIn(0, 2);
        Check.noState("decide(1, true) behind 1", hall, () -> hall.decide(1, true));
        Check.noState("decide(2, true) behind 0", hall, () -> hall.decide(2, true));
        Check.equal("decide(0, false) behind 2", BagHall.SCREEN_2, hall.decide(0, false));
        hall.pass(1);
        Check.equal("decide(1, false) behind 2", BagHall.SCREEN_2, hall.decide(1, false));
        Check.noState("decide(2, false) behind 1", hall, () -> hall.decide(2, false));
        Check.noState("decide(0, false) behind 1 at SCREEN_2", hall, () -> hall.decide(0, false));
        hall.pass(3);
        Check.noState("decide(1, false) behind 3 at SCREEN_2", hall, () -> hall.decide(1, false));
        Check.equal("decide(0, false) behind 4 at SCREEN_2", BagHall.SCREEN_3, hall.decide(0, false));
        Check.equal("decide(2, true) behind 4 at SCREEN_1", BagHall.STORE, hall.decide(2, true));
    }

    private static void promise9NoSuchBag() {
        BagHall hall = Halls.everyPlace();
        int[] noBags = {-1, hall.bags(), hall.bags() + 1, 48, MIN, MAX};
        for (int bag : noBags) {
            noBag(hall, bag);
        }
    }

    /** All 48 bags through every call: the first and the last one, and the counts of none and of all. */
    private static void promises9To13FullHall() {
        BagHall hall = new BagHall();
        for (int flight = 0; flight < 10; flight++) {
            hall.addFlight(60 * flight + 60);
        }
        Check.passLong(hall, 539);
        for (int bag = 0; bag < 48; bag++) {
            hall.checkIn(9, bag % 40);
        }
        all(hall, BagHall.SCREEN_1);
        int[] needed = {2, 4, 10};
        for (int level = 1; level <= 3; level++) {
            hall.pass(needed[level - 1]);
            for (int bag = 0; bag < 48; bag++) {
                Check.equal("decide(" + bag + ", false)", level + 1, hall.decide(bag, false));
            }
            all(hall, level + 1);
        }
        for (int bag = 0; bag < 48; bag++) {
            Check.equal("letGo(" + bag + ")", BagHall.LATERAL, hall.letGo(bag));
        }
        all(hall, BagHall.LATERAL);
        loadAndOffloadAll(hall);
    }

    private static void loadAndOffloadAll(BagHall hall) {
        for (int bag = 47; bag >= 0; bag--) {
            Check.equal("load(" + bag + ")", 48 - bag, hall.load(bag));
        }
        all(hall, BagHall.LOADED);
        Check.equal("unmatched(9)", 48, hall.unmatched(9));
        hall.board(7, true);
        Check.equal("unmatched(9), riders 7 of bags 7 and 47", 46, hall.unmatched(9));
        for (int bag = 0; bag < 48; bag++) {
            Check.equal("offload(" + bag + ")", 47 - bag, hall.offload(bag));
        }
        all(hall, BagHall.OFFLOADED);
        for (int bag = 0; bag < 48; bag++) {
            Check.equal("sendOn(" + bag + ", 9)", BagHall.LATERAL, hall.sendOn(bag, 9));
            Check.equal("load(" + bag + ")", bag + 1, hall.load(bag));
        }
        Check.equal("unmatched(9), all on purpose", 0, hall.unmatched(9));
        int before = hall.scans();
        Check.equal("the departure", 48, hall.pass(600 - hall.time()));
        all(hall, BagHall.FLOWN);
        for (int bag = 0; bag < 48; bag++) {
            Check.equal("the bag of a scan of the departure", bag, hall.bagOfScan(before + bag));
            Check.equal("the place of a scan of the departure", BagHall.FLOWN, hall.placeOfScan(before + bag));
        }
    }

    private static void all(BagHall hall, int due) {
        for (int place = BagHall.SCREEN_1; place <= BagHall.LATE; place++) {
            Check.equal("count(" + place + ") with all at " + due, place == due ? 48 : 0, hall.count(place));
        }
        for (int bag = 0; bag < 48; bag++) {
            Check.equal("placeOf(" + bag + ")", due, hall.placeOf(bag));
            Check.equal("placeByScans(" + bag + ")", due, hall.placeByScans(bag, hall.time()));
            Check.equal("flightOf(" + bag + ")", 9, hall.flightOf(bag));
        }
        int lateral = hall.lateralOf(9);
        for (int other = 0; other < 4; other++) {
            int here = due == BagHall.LATERAL && other == lateral ? 48 : 0;
            Check.equal("atLateral(" + other + ") with all at " + due, here, hall.atLateral(other));
        }
    }

    /** Neither call asks for the time: from the opening to the last minute, closed or not. */
    private static void promises11And12TillTheDeparture() {
        for (int minute = 1; minute <= 61; minute++) {
            BagHall hall = Halls.withFlights(61);
            hall.transfer(0, 0);
            Check.noState("load(0) before the opening", hall, () -> hall.load(0));
            hall.pass(minute);
            if (minute < 61) {
                Check.equal("load(0) at " + minute, 1, hall.load(0));
                Check.noState("load(0) once more at " + minute, hall, () -> hall.load(0));
                Check.equal("offload(0) at " + minute, 0, hall.offload(0));
            } else {
                Check.noState("load(0) at the departure", hall, () -> hall.load(0));
            }
            Check.noState("offload(0) once more at " + minute, hall, () -> hall.offload(0));
        }
    }

    /** "how many bags of its flight are LOADED then": not those of another flight at its lateral, nor the offloaded. */
    private static void promises11And12OfItsFlightAlone() {
        BagHall hall = Halls.withFlights(60, 120);
        hall.transfer(0, 0);
        hall.transfer(0, 0);
        hall.transfer(0, 0);
        Check.equal("load(0)", 1, hall.load(0));
        Check.equal("load(1)", 2, hall.load(1));
        Check.equal("offload(0)", 1, hall.offload(0));
        Check.equal("load(2), with one offloaded", 2, hall.load(2));
        hall.pass(59);
        Check.equal("sendOn(0, 1)", BagHall.STORE, hall.sendOn(0, 1));
        hall.pass(1);
        Check.equal("both flights have one lateral", hall.lateralOf(0), hall.lateralOf(1));
        Check.equal("load(0), of its new flight", 1, hall.load(0));
        Check.equal("sendOn(1, 1)", BagHall.LATERAL, hall.sendOn(1, 1));
        Check.equal("load(1), of its new flight", 2, hall.load(1));
        Check.equal("offload(0), of its new flight", 1, hall.offload(0));
        Check.equal("offload(1), the last one", 0, hall.offload(1));
    }

    private static void promise13FirstAndLastFlight() {
        BagHall hall = Halls.withFlights(60, 60, 60, 60, 5, 5, 5, 5, 5, 60);
        hall.transfer(4, 0);
        Check.equal("sendOn(0, 9)", BagHall.LATE, hall.sendOn(0, 9));
        Check.equal("flightOf(0)", 9, hall.flightOf(0));
        Check.equal("sendOn(0, 0)", BagHall.LATERAL, hall.sendOn(0, 0));
        Check.equal("flightOf(0) then", 0, hall.flightOf(0));
        Check.equal("each is scanned", " 0@11 0@11 0@7", Check.scansFrom(hall, 0));
    }

    /** No bag or flight, then the bag's place or the departure. */
    private static void promise13WhichException() {
        BagHall hall = Halls.withFlights(20, 50, 60, 1);
        hall.transfer(0, 0);
        hall.load(0);
        hall.offload(0);
        hall.transfer(3, 0);
        hall.transfer(1, 0);
        hall.pass(1);
        int[] noBags = {-1, 3, 48, MIN, MAX};
        int[] noFlights = {-1, 4, 10, MIN, MAX};
        for (int bag : noBags) {
            for (int flight = 0; flight < 4; flight++) {
                refusesToSendOn(hall, bag, flight, IndexOutOfBoundsException.class);
            }
            for (int flight : noFlights) {
                refusesToSendOn(hall, bag, flight, IndexOutOfBoundsException.class);
            }
        }
        for (int bag = 0; bag < 3; bag++) {
            for (int flight : noFlights) {
                refusesToSendOn(hall, bag, flight, IndexOutOfBoundsException.class);
            }
            // Bag 0 keeps its flight, which is not the departed one, and bag 2 may not go at all.
            refusesToSendOn(hall, bag, 3, IllegalStateException.class);
        }
        for (int flight = 0; flight < 3; flight++) {
            refusesToSendOn(hall, 2, flight, IllegalStateException.class);
        }
        Check.equal("flightOf(0) behind refused ones", 0, hall.flightOf(0));
        Check.equal("sendOn(0, 0)", BagHall.LATERAL, hall.sendOn(0, 0));
        Check.equal("sendOn(1, 2)", BagHall.LATERAL, hall.sendOn(1, 2));
    }

    private static void refusesToSendOn(BagHall hall, int bag, int flight, Class<? extends RuntimeException> due) {
        Check.refuses("sendOn(" + bag + ", " + flight + ")", hall, due, () -> hall.sendOn(bag, flight));
    }

    /** "is on purpose from then on": sent on out of both places, once or twice, and no other bag of its rider. */
    private static void promise13OnPurpose() {
        for (int times = 0; times <= 3; times++) {
            for (int late = 0; late < 2; late++) {
                BagHall hall = Halls.withFlights(50, 5);
                hall.transfer(late == 0 ? 0 : 1, 8);
                hall.transfer(0, 8);
                hall.load(1);
                for (int time = 0; time < times; time++) {
                    if (late == 0) {
                        hall.load(0);
                        hall.offload(0);
                    }
                    boolean isLast = time == times - 1;
                    Check.equal("sendOn(0)", late == 0 || isLast ? 7 : 11, hall.sendOn(0, late == 0 || isLast ? 0 : 1));
                }
                if (times > 0 || late == 0) {
                    Check.equal("load(0)", 2, hall.load(0));
                    Check.equal("unmatched(0), sent on " + times + " times", times == 0 ? 2 : 1, hall.unmatched(0));
                    hall.pass(50);
                    Check.equal("placeOf(0)", times == 0 ? BagHall.OFFLOADED : BagHall.FLOWN, hall.placeOf(0));
                    Check.equal("placeOf(1)", BagHall.OFFLOADED, hall.placeOf(1));
                }
            }
        }
    }

    /** "0 to now": both ends, at the time 0 and later; what was ahead is told as soon as it is now. */
    private static void promise16Range() {
        BagHall hall = Halls.withFlights(50, 900);
        hall.transfer(0, 0);
        Check.equal("placeByScans(0, 0) at the time 0", BagHall.LATERAL, hall.placeByScans(0, 0));
        int[] passes = {1, 38, 1, 10, 200};
        for (int minutes : passes) {
            int now = hall.time();
            int[] refused = {-1, -2, now + 1, now + 2, MIN, MAX};
            for (int time : refused) {
                Check.noArgument("placeByScans(0, " + time + ") at " + now, hall, () -> hall.placeByScans(0, time));
            }
            hall.pass(minutes);
            Check.equal("placeByScans(0, 0) later", BagHall.LATERAL, hall.placeByScans(0, 0));
            Check.equal("placeByScans(0, now)", hall.placeOf(0), hall.placeByScans(0, hall.time()));
            int last = hall.checkIn(1, 1);
            Check.equal("a new bag now", BagHall.SCREEN_1, hall.placeByScans(last, hall.time()));
            Check.equal("a new bag a minute ago", BagHall.NONE, hall.placeByScans(last, hall.time() - 1));
            Check.equal("a new bag at the time 0", BagHall.NONE, hall.placeByScans(last, 0));
        }
    }

    /** "the place at which a bag was at a time, behind all that happened at it": each bag, each time, each place. */
    private static void promise16EachTime() {
        BagHall hall = Halls.withFlights(20, 75, 200);
        Halls.transfer(hall, 1, 8);
        Halls.transfer(hall, 2, 3);
        for (int bag = 0; bag < 6; bag++) {
            hall.checkIn(bag < 3 ? 2 : 1, bag);
        }
        Halls.transfer(hall, 0, 3);
        int[][] places = new int[48][Day.MINUTES];
        for (int minute = 0; minute < Day.MINUTES; minute++) {
            Day.act(hall, minute, new StringBuilder());
            for (int bag = 0; bag < 48; bag++) {
                places[bag][hall.time()] = bag < hall.bags() ? hall.placeOf(bag) : BagHall.NONE;
            }
            hall.pass(1);
        }
        boolean[][] moves = new boolean[12][12];
        for (int bag = 0; bag < hall.bags(); bag++) {
            for (int time = 0; time < Day.MINUTES; time++) {
                int place = places[bag][time];
                Check.equal("placeByScans(" + bag + ", " + time + ")", place, hall.placeByScans(bag, time));
                if (time > 0 && place != BagHall.NONE) {
                    moves[Math.max(0, places[bag][time - 1])][place] = true;
                }
            }
        }
        int[][] seen = {{0, 1}, {1, 2}, {2, 3}, {3, 4}, {4, 5}, {1, 6}, {6, 5}, {5, 7}, {7, 8}, {8, 9}, {8, 10}, {7, 11}, {10, 5}};
        for (int[] move : seen) {
            Check.isTrue("a bag came from " + move[0] + " to " + move[1], moves[move[0]][move[1]]);
        }
    }

    /** The scan of a departure has the time of the departure, be it the first or the last one of its minute. */
    private static void promise16AtTheDeparture() {
        BagHall hall = Halls.withFlights(50, 60, 70, 80);
        for (int bag = 0; bag < 4; bag++) {
            hall.transfer(bag, bag);
        }
        hall.load(0);
        hall.load(1);
        hall.board(0, true);
        Check.equal("the place of bag 3", BagHall.STORE, hall.placeOf(3));
        hall.pass(90);
        int[] changes = {50, 60, 70, 20, 80};
        int[] bags = {0, 1, 2, 3, 3};
        int[] before = {8, 8, 7, 5, 7};
        int[] then = {9, 10, 11, 7, 11};
        for (int i = 0; i < changes.length; i++) {
            String what = "bag " + bags[i] + " at " + changes[i];
            Check.equal(what + " less 1", before[i], hall.placeByScans(bags[i], changes[i] - 1));
            Check.equal(what, then[i], hall.placeByScans(bags[i], changes[i]));
            Check.equal(what + " and 1", then[i], hall.placeByScans(bags[i], changes[i] + 1));
        }
    }

    private static void promise17FlightThatItHasNow() {
        BagHall hall = Halls.withFlights(5, 60, 120);
        hall.transfer(0, 0);
        hall.checkIn(0, 0);
        Check.equal("flightOf(0)", 0, hall.flightOf(0));
        hall.sendOn(0, 1);
        Check.equal("flightOf(0), sent on", 1, hall.flightOf(0));
        hall.load(0);
        hall.offload(0);
        hall.sendOn(0, 2);
        Check.equal("flightOf(0), sent on again", 2, hall.flightOf(0));
        hall.pass(5);
        Check.equal("flightOf(1), whose flight has departed", 0, hall.flightOf(1));
        hall.pass(200);
        Check.equal("flightOf(0), whose flight has departed", 2, hall.flightOf(0));
    }

    /** One bag alone: at each place, and at each lateral, it is counted there and nowhere else. */
    private static void promises18And19OneOfAll() {
        BagHall hall = Halls.withFlights(60, 60, 60, 60);
        for (int lateral = 0; lateral < 4; lateral++) {
            hall.transfer(lateral, 0);
            for (int other = 0; other < 4; other++) {
                Check.equal("atLateral(" + other + ")", other <= lateral ? 1 : 0, hall.atLateral(other));
            }
        }
        for (int lateral = 3; lateral >= 0; lateral--) {
            hall.load(lateral);
            for (int other = 0; other < 4; other++) {
                Check.equal("atLateral(" + other + ")", other < lateral ? 1 : 0, hall.atLateral(other));
            }
        }
        BagHall full = Halls.withFlights(500);
        for (int bags = 0; bags <= 48; bags++) {
            Check.equal("count(STORE) with " + bags, Math.min(8, bags), full.count(BagHall.STORE));
            Check.equal("count(LOOP) with " + bags, Math.max(0, bags - 8), full.count(BagHall.LOOP));
            if (bags < 48) {
                full.transfer(0, 0);
            }
        }
    }

    /** "how many LOADED bags of a flight would be offloaded": each bag of a rider, by the flight that it has now. */
    private static void promise20BagsNotRiders() {
        BagHall hall = Halls.withFlights(60, 60);
        for (int bag = 0; bag < 3; bag++) {
            hall.transfer(0, 39);
            hall.load(bag);
        }
        hall.transfer(0, 39);
        hall.transfer(0, 39);
        hall.load(4);
        hall.offload(4);
        Check.equal("unmatched(0): not the one at the lateral, nor the offloaded one", 3, hall.unmatched(0));
        hall.sendOn(4, 1);
        hall.load(4);
        Check.equal("unmatched(1), on purpose", 0, hall.unmatched(1));
        hall.transfer(1, 38);
        hall.load(5);
        Check.equal("unmatched(1), rider 38", 1, hall.unmatched(1));
        hall.board(39, true);
        Check.equal("unmatched(0), rider 39 has boarded", 0, hall.unmatched(0));
        Check.equal("unmatched(1), rider 39 has boarded", 1, hall.unmatched(1));
        hall.board(39, false);
        Check.equal("unmatched(0), rider 39 has left", 3, hall.unmatched(0));
        hall.pass(60);
        Check.equal("unmatched(0), departed", 0, hall.unmatched(0));
        Check.equal("count(OFFLOADED), as it told", 4, hall.count(BagHall.OFFLOADED));
        Check.equal("count(FLOWN)", 1, hall.count(BagHall.FLOWN));
    }

    /** Only sendOn makes a bag be on purpose: no other way to the lateral does. */
    private static void promise20WhateverTheWay() {
        for (Route.Way way : Route.Way.values()) {
            Route route = new Route(way, 30, true, 0);
            Check.equal(way + " to the lateral", BagHall.LATERAL, route.go());
            int bag = route.hall.bagOfScan(route.hall.scans() - 1);
            Check.equal("load, by " + way, 1, route.hall.load(bag));
            boolean isOnPurpose = way == Route.Way.SEND_ON_LATE || way == Route.Way.SEND_ON_OFFLOADED;
            Check.equal("unmatched, by " + way, isOnPurpose ? 0 : 1, route.hall.unmatched(route.hall.flightOf(bag)));
            route.hall.pass(30);
            Check.equal("its place, by " + way, isOnPurpose ? BagHall.FLOWN : BagHall.OFFLOADED, route.hall.placeOf(bag));
        }
    }

    /** "0 if it has closed or departed", and the last minute before; with a lateral or without. */
    private static void promise21LastMinutes() {
        BagHall hall = Halls.withFlights(12, 12, 12, 12, 12);
        Check.equal("lateralOf(4)", BagHall.NONE, hall.lateralOf(4));
        int[] due = {2, 1, 0, 0, 0, 0, 0, 0, 0, 0, 0, 0, 0, 0, 0};
        for (int minutes : due) {
            Check.equal("untilClose(0) at " + hall.time(), minutes, hall.untilClose(0));
            Check.equal("untilClose(4) at " + hall.time(), minutes, hall.untilClose(4));
            hall.pass(1);
        }
        Check.passLong(hall, 1000);
        Check.equal("untilClose(0) long behind", 0, hall.untilClose(0));
    }

    /** "0 for the first one", up to the last one; behind each new scan one more. */
    private static void promises23And24Range() {
        BagHall hall = Halls.withFlights(50);
        int[] noScans = {-1, -2, 48, 512, 2047, 2048, 2049, MIN, MAX};
        for (int scans = 0; scans < 40; scans++) {
            for (int scan : noScans) {
                noScan(hall, scan);
            }
            noScan(hall, scans);
            noScan(hall, scans + 1);
            hall.transfer(0, 0);
            Check.equal("scans()", scans + 1, hall.scans());
            Check.equal("bagOfScan of the last one", scans, hall.bagOfScan(scans));
            Check.equal("placeOfScan of the last one", BagHall.LATERAL, hall.placeOfScan(scans));
            Check.equal("bagOfScan of the first one", 0, hall.bagOfScan(0));
            Check.equal("placeOfScan of the first one", BagHall.LATERAL, hall.placeOfScan(0));
        }
    }
}
