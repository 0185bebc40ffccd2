/** The sentences of the document's terms that name a boundary case, in their order. */
public final class TermEdgeTest {
    public static void main(String[] args) {
        timeIsFromZeroOn();
        opensAndCloses();
        behindTheDeparture();
        lateralsAreApart();
        lateralIsAskedOfEachFlightBefore();
        lateralIsByDeparturesNotByMinutes();
        lateralsAreFour();
        noLateralIsForGood();
        noLateralIsLate();
        noRiderHasBoardedAtFirst();
        storeHasRoomForEight();
        fullStoreIsNoMatterToAnOpenFlight();
        storeGivesThreeAMinute();
        storeGivesThreeOfAllFlights();
        storeGivesThoseThatCameFirst();
        storeGivesThoseThatCameFirstInOneMinute();
        storeCountsTheLastComing();
        loopOfForty();
        loopGivesOneEach();
        minuteHasItsOrder();
        departureMovesWhatTheDocumentNames();
        departureAsksRiderAndPurpose();
        departureLeavesOtherFlightsAlone();
        departureGoesByNumbers();
        departureIsOnce();
        departureOfTheLastFlightAndBag();
        Check.end("TermEdgeTest");
    }

    /** "Time is in minutes, from 0 on." */
    private static void timeIsFromZeroOn() {
        BagHall hall = new BagHall();
        Check.equal("the first time", 0, hall.time());
        hall.pass(1);
        Check.equal("the second time", 1, hall.time());
        for (int passes = 1; passes <= 500; passes++) {
            hall.pass(200);
        }
        Check.equal("the time behind 501 calls", 100001, hall.time());
        hall.addFlight(1000);
        Check.equal("untilClose then", 990, hall.untilClose(0));
        hall.checkIn(0, 0);
        Check.noState("decide(0, true) then", hall, () -> hall.decide(0, true));
        hall.pass(2);
        Check.equal("decide(0, true) 2 minutes on", BagHall.STORE, hall.decide(0, true));
        Check.equal("placeByScans(0, 100000)", BagHall.NONE, hall.placeByScans(0, 100000));
        Check.equal("placeByScans(0, 100001)", BagHall.SCREEN_1, hall.placeByScans(0, 100001));
        Check.equal("placeByScans(0, 100003)", BagHall.STORE, hall.placeByScans(0, 100003));
        Check.noArgument("placeByScans(0, 100004)", hall, () -> hall.placeByScans(0, 100004));
    }

    /** "opens 60 minutes before it, and closes 10 minutes before it", by each call that routes. */
    private static void opensAndCloses() {
        int[] minutesLeft = {500, 62, 61, 60, 59, 12, 11, 10, 9, 1};
        int[] due = {5, 5, 5, 7, 7, 7, 7, 11, 11, 11};
        for (Route.Way way : Route.Way.values()) {
            for (int i = 0; i < due.length; i++) {
                routes(way + ", " + minutesLeft[i] + " minutes before", due[i], new Route(way, minutesLeft[i], true, 0));
            }
        }
    }

    /** "LATE, if the flight has closed (the time is at least its departure less 10)": also behind its departure. */
    private static void behindTheDeparture() {
        for (Route.Way way : Route.Way.values()) {
            for (int minutesLeft = -way.wait + 1; way.reachesDeparted() && minutesLeft <= 0; minutesLeft++) {
                routes(way + ", " + -minutesLeft + " minutes behind", BagHall.LATE, new Route(way, minutesLeft, true, 0));
            }
        }
    }

    private static void routes(String what, int due, Route route) {
        int before = route.hall.scans();
        Check.equal(what, due, route.go());
        Check.equal(what + ": how many scans", before + 1, route.hall.scans());
        int bag = route.hall.bagOfScan(before);
        Check.equal(what + ": the scan's place", due, route.hall.placeOfScan(before));
        Check.equal(what + ": the bag's place", due, route.hall.placeOf(bag));
        Check.equal(what + ": by the scans", due, route.hall.placeByScans(bag, route.hall.time()));
    }

    /** "the departures of both are at least 60 minutes apart": 59, 60 and 61, on both sides, at each lateral. */
    private static void lateralsAreApart() {
        for (int lateral = 0; lateral < 4; lateral++) {
            for (int side = -1; side <= 1; side += 2) {
                for (int gap = 59; gap <= 61; gap++) {
                    BagHall hall = new BagHall();
                    // The laterals below are taken by flights that are less than 60 minutes from all others here.
                    for (int below = 0; below < lateral; below++) {
                        hall.addFlight(500 + side * 30);
                    }
                    hall.addFlight(500);
                    Check.equal("the lateral of the flight before", lateral, hall.lateralOf(lateral));
                    hall.addFlight(500 + side * gap);
                    int next = lateral < 3 ? lateral + 1 : BagHall.NONE;
                    Check.equal(side * gap + " minutes from the flight at lateral " + lateral,
                            gap < 60 ? next : lateral, hall.lateralOf(lateral + 1));
                }
            }
        }
    }

    /** "for each flight added before that has this lateral": the first, the last, and one between them. */
    private static void lateralIsAskedOfEachFlightBefore() {
        int[][] before = {{100, 300, 500}, {500, 300, 100}, {300, 100, 500}, {100, 500, 300}};
        int[] minutes = {40, 41, 100, 159, 160, 200, 240, 241, 300, 359, 360, 440, 441, 500, 559, 560};
        int[] due = {0, 1, 1, 1, 0, 0, 0, 1, 1, 1, 0, 0, 1, 1, 1, 0};
        for (int[] added : before) {
            for (int i = 0; i < minutes.length; i++) {
                BagHall hall = Halls.withFlights(added);
                hall.addFlight(minutes[i]);
                Check.equal("the lateral of a flight at " + minutes[i], due[i], hall.lateralOf(3));
            }
        }
    }

    private static void lateralIsByDeparturesNotByMinutes() {
        BagHall hall = Halls.withFlights(100);
        hall.pass(59);
        hall.addFlight(100);
        Check.equal("at 159, 59 minutes behind the first", 1, hall.lateralOf(1));
        hall.pass(1);
        hall.addFlight(100);
        Check.equal("at 160, 60 minutes behind the first", 0, hall.lateralOf(2));
        hall.addFlight(160);
        Check.equal("at 220, 60 and 61 minutes behind the others", 0, hall.lateralOf(3));
    }

    /** "There are 4 laterals, 0 to 3", and the lowest that is free is the flight's. */
    private static void lateralsAreFour() {
        BagHall hall = Halls.withFlights(500, 500, 500, 500, 500, 440, 560, 441, 559, 500);
        int[] due = {0, 1, 2, 3, BagHall.NONE, 0, 0, BagHall.NONE, BagHall.NONE, BagHall.NONE};
        for (int flight = 0; flight < 10; flight++) {
            Check.equal("lateralOf(" + flight + ")", due[flight], hall.lateralOf(flight));
        }
    }

    /** "if there is none, it has no lateral, for good": also when the other flights have long departed. */
    private static void noLateralIsForGood() {
        BagHall hall = Halls.withFlights(145, 145, 145, 145, 204, 1000);
        Check.equal("lateralOf(4)", BagHall.NONE, hall.lateralOf(4));
        hall.checkIn(4, 0);
        hall.pass(150);
        Check.equal("lateralOf(4), when the others have departed", BagHall.NONE, hall.lateralOf(4));
        hall.transfer(4, 0);
        Check.equal("a transfer then", BagHall.LATE, hall.placeOf(1));
        Check.equal("a decision then", BagHall.LATE, hall.decide(0, true));
        Check.equal("sendOn then", BagHall.LATE, hall.sendOn(0, 4));
        hall.addFlight(55);
        Check.equal("a flight that departs a minute later has one", 0, hall.lateralOf(6));
        hall.pass(54);
        Check.equal("lateralOf(4), when it has departed", BagHall.NONE, hall.lateralOf(4));
    }

    /** "to LATE, if the flight .. has no lateral": before the opening, when it is open, and closed. */
    private static void noLateralIsLate() {
        int[] minutesLeft = {500, 61, 60, 11, 10, 1};
        for (Route.Way way : Route.Way.values()) {
            for (int left : minutesLeft) {
                routes(way + " without a lateral, " + left + " minutes before", BagHall.LATE, new Route(way, left, false, 0));
            }
        }
    }

    /** "A rider has boarded, or not; at first none has": each rider, by what becomes of a bag. */
    private static void noRiderHasBoardedAtFirst() {
        for (int boarded = -1; boarded < 40; boarded++) {
            BagHall hall = Halls.withFlights(50);
            Halls.transfer(hall, 0, 40);
            for (int bag = 0; bag < 40; bag++) {
                hall.load(bag);
            }
            if (boarded >= 0) {
                Check.isFalse("board(" + boarded + ", true)", hall.board(boarded, true));
            }
            Check.equal("unmatched(0)", boarded < 0 ? 40 : 39, hall.unmatched(0));
            hall.pass(50);
            for (int bag = 0; bag < 40; bag++) {
                Check.equal("the bag of rider " + bag + " when " + boarded + " has boarded",
                        bag == boarded ? BagHall.FLOWN : BagHall.OFFLOADED, hall.placeOf(bag));
            }
        }
    }

    /** "STORE, which has room for 8 bags": the 8th is taken, the 9th is not, by each call that routes. */
    private static void storeHasRoomForEight() {
        int[] waiting = {0, 1, 6, 7, 8, 9, 20};
        for (Route.Way way : Route.Way.values()) {
            for (int others : waiting) {
                Route route = new Route(way, 61, true, others);
                routes(way + " with " + others + " bags waiting", others < 8 ? BagHall.STORE : BagHall.LOOP, route);
                Check.equal("count(STORE) then", Math.min(8, others + 1), route.hall.count(BagHall.STORE));
            }
        }
    }

    /** "otherwise to its LATERAL, if the flight has opened": the room of the store is asked behind that. */
    private static void fullStoreIsNoMatterToAnOpenFlight() {
        for (Route.Way way : Route.Way.values()) {
            routes(way + ", 60 minutes before", BagHall.LATERAL, new Route(way, 60, true, 8));
            routes(way + ", 11 minutes before", BagHall.LATERAL, new Route(way, 11, true, 9));
            routes(way + ", 10 minutes before", BagHall.LATE, new Route(way, 10, true, 8));
            routes(way + ", without a lateral", BagHall.LATE, new Route(way, 61, false, 8));
        }
    }

    /** "those that came first go to their LATERAL, at most 3 of them": of 0 to 8 bags. */
    private static void storeGivesThreeAMinute() {
        for (int bags = 0; bags <= 8; bags++) {
            BagHall hall = Halls.withFlights(61);
            Halls.transfer(hall, 0, bags);
            for (int left = bags; left > -3; left -= 3) {
                int due = Math.max(0, Math.min(3, left));
                Check.equal("pass(1) with " + left + " of " + bags, due, hall.pass(1));
                Check.equal("count(STORE) then", Math.max(0, left) - due, hall.count(BagHall.STORE));
            }
        }
    }

    private static void storeGivesThreeOfAllFlights() {
        BagHall hall = Halls.withFlights(61, 61, 61);
        for (int bag = 0; bag < 8; bag++) {
            hall.transfer(2 - bag % 3, bag);
        }
        Check.equal("pass(1), three flights open", 3, hall.pass(1));
        Check.equal("pass(1), next", 3, hall.pass(1));
        Check.equal("pass(1), the rest", 2, hall.pass(1));
        Check.equal("by their coming, over all flights", " 0@7 1@7 2@7 3@7 4@7 5@7 6@7 7@7", Check.scansFrom(hall, 8));
    }

    /** A bag that came first waits for its own flight, and goes first from then on. */
    private static void storeGivesThoseThatCameFirst() {
        BagHall hall = Halls.withFlights(63, 61);
        hall.transfer(0, 0);
        Halls.transfer(hall, 1, 7);
        hall.pass(2);
        Check.equal("those of the open flight", " 1@7 2@7 3@7 4@7 5@7 6@7", Check.scansFrom(hall, 8));
        hall.pass(1);
        Check.equal("the first of all, as its flight opens", " 0@7 7@7", Check.scansFrom(hall, 14));
    }

    /** Bag 0 comes in the same minute as the others, behind them. */
    private static void storeGivesThoseThatCameFirstInOneMinute() {
        BagHall hall = Halls.withFlights(100);
        hall.checkIn(0, 0);
        hall.pass(2);
        Halls.transfer(hall, 0, 3);
        Check.equal("decide(0, true)", BagHall.STORE, hall.decide(0, true));
        hall.transfer(0, 0);
        hall.pass(38);
        Check.equal("the order", " 1@7 2@7 3@7", Check.scansFrom(hall, 6));
        hall.pass(1);
        Check.equal("the order then", " 0@7 4@7", Check.scansFrom(hall, 9));
    }

    /** Bag 0 was in the store before the others, and comes once more behind them. */
    private static void storeCountsTheLastComing() {
        BagHall hall = Halls.withFlights(70, 200);
        hall.transfer(0, 0);
        Halls.transfer(hall, 1, 3);
        hall.pass(10);
        hall.load(0);
        hall.offload(0);
        Check.equal("sendOn(0, 1)", BagHall.STORE, hall.sendOn(0, 1));
        int before = hall.scans();
        hall.pass(130);
        Check.equal("the order", " 1@7 2@7 3@7", Check.scansFrom(hall, before));
        hall.pass(1);
        Check.equal("the order then", " 0@7", Check.scansFrom(hall, before + 3));
    }

    /** "A bag that is in the LOOP and is brought to the LOOP stays there, and is not scanned": all of a full hall. */
    private static void loopOfForty() {
        BagHall hall = Halls.withFlights(1000, 80);
        Halls.transfer(hall, 0, 48);
        Check.equal("count(LOOP)", 40, hall.count(BagHall.LOOP));
        Check.equal("pass(200)", 0, hall.pass(200));
        Check.equal("count(LOOP) then", 40, hall.count(BagHall.LOOP));
        Check.equal("scans() then", 48, hall.scans());
        Check.equal("the minutes till the opening", 0, Check.passLong(hall, 739));
        Check.equal("the opening", 43, hall.pass(1));
        StringBuilder due = new StringBuilder(" 0@7 1@7 2@7");
        for (int bag = 8; bag < 48; bag++) {
            due.append(' ').append(bag).append("@7");
        }
        Check.equal("3 out of the store, then all of the loop by rising numbers", due.toString(), Check.scansFrom(hall, 48));
    }

    /** "if that has room": in a minute, too, the 8th place is taken, and no 9th. */
    private static void loopGivesOneEach() {
        for (int out = 1; out <= 3; out++) {
            BagHall hall = Halls.withFlights(61, 500);
            Halls.transfer(hall, 0, out);
            Halls.transfer(hall, 1, 8 - out);
            Halls.transfer(hall, 1, 5);
            Check.equal("pass(1): out of the store, and as many into it", 2 * out, hall.pass(1));
            Check.equal("count(STORE)", 8, hall.count(BagHall.STORE));
            Check.equal("count(LOOP)", 5 - out, hall.count(BagHall.LOOP));
            Check.equal("pass(1): the store is full", 0, hall.pass(1));
        }
    }

    /** "the time grows by 1; then .. the STORE ..; then the bags in the LOOP ..; then each flight .. departs" */
    private static void minuteHasItsOrder() {
        BagHall hall = Halls.withFlights(40, 100, 500);
        hall.transfer(0, 0);
        Halls.transfer(hall, 1, 8);
        hall.transfer(2, 0);
        hall.transfer(1, 0);
        Check.equal("pass(39)", 0, hall.pass(39));
        Check.equal("pass(1)", 6, hall.pass(1));
        Check.equal("store, loop, departure", " 1@7 2@7 3@7 9@5 10@7 0@11", Check.scansFrom(hall, 11));
        Check.equal("each at the time that it is then", BagHall.LATERAL, hall.placeByScans(1, 40));
        Check.equal("and not before", BagHall.STORE, hall.placeByScans(1, 39));
    }

    /** "one that is LOADED ..; one in the STORE, the LOOP or at the LATERAL is LATE": the others stay unscanned. */
    private static void departureMovesWhatTheDocumentNames() {
        BagHall hall = Halls.withFlights(32);
        for (int bag = 0; bag < 4; bag++) {
            hall.checkIn(0, bag);
        }
        Halls.transfer(hall, 0, 4);
        hall.load(4);
        hall.load(5);
        hall.offload(5);
        hall.load(6);
        hall.board(2, true);
        Halls.hold(hall, 0);
        hall.decide(1, false);
        hall.decide(2, false);
        hall.pass(6);
        hall.decide(2, false);
        hall.transfer(0, 8);
        int[] before = {4, 2, 3, 1, 8, 10, 8, 7, 11};
        int[] behind = {4, 2, 3, 1, 10, 10, 9, 11, 11};
        Check.equal("pass(9)", 0, hall.pass(9));
        for (int bag = 0; bag < before.length; bag++) {
            Check.equal("bag " + bag + " before the departure", before[bag], hall.placeOf(bag));
        }
        int scans = hall.scans();
        Check.equal("pass(1)", 3, hall.pass(1));
        Check.equal("what is scanned", " 4@10 6@9 7@11", Check.scansFrom(hall, scans));
        for (int bag = 0; bag < behind.length; bag++) {
            Check.equal("bag " + bag + " behind the departure", behind[bag], hall.placeOf(bag));
            Check.equal("its flight", 0, hall.flightOf(bag));
        }
    }

    /** "FLOWN if its rider has boarded or it is on purpose, and OFFLOADED otherwise": all four cases. */
    private static void departureAsksRiderAndPurpose() {
        BagHall hall = Halls.withFlights(30);
        int[] riders = {0, 1, 0, 1};
        for (int bag = 0; bag < 4; bag++) {
            hall.transfer(0, riders[bag]);
            hall.load(bag);
        }
        hall.board(1, true);
        for (int bag = 2; bag < 4; bag++) {
            hall.offload(bag);
            hall.sendOn(bag, 0);
            hall.load(bag);
        }
        Check.equal("unmatched(0)", 1, hall.unmatched(0));
        int scans = hall.scans();
        hall.pass(30);
        Check.equal("neither, boarded, on purpose, both", " 0@10 1@9 2@9 3@9", Check.scansFrom(hall, scans));
    }

    /** Only "its bags are gone through": those of other flights stay, wherever they are. */
    private static void departureLeavesOtherFlightsAlone() {
        BagHall hall = Halls.withFlights(20, 25, 200);
        hall.transfer(0, 0);
        hall.load(0);
        hall.offload(0);
        hall.sendOn(0, 1);
        hall.transfer(1, 0);
        hall.load(1);
        Halls.transfer(hall, 2, 9);
        Check.equal("the departure of flight 0, with no bag left", 0, hall.pass(20));
        Check.equal("the bag that was sent on", BagHall.LATERAL, hall.placeOf(0));
        Check.equal("a loaded bag", BagHall.LOADED, hall.placeOf(1));
        Check.equal("a bag in the store", BagHall.STORE, hall.placeOf(2));
        Check.equal("a bag in the loop", BagHall.LOOP, hall.placeOf(10));
        Check.equal("the departure of flight 1", 2, hall.pass(5));
        Check.equal("both of its bags", " 0@11 1@10", Check.scansFrom(hall, 15));
    }

    /** "each flight whose departure is this time departs, by rising numbers: its bags .., by rising numbers" */
    private static void departureGoesByNumbers() {
        BagHall hall = Halls.withFlights(30, 30, 30, 30);
        for (int bag = 0; bag < 12; bag++) {
            hall.transfer(3 - bag % 4, bag);
        }
        int[] loaded = {2, 4, 7, 9};
        for (int bag : loaded) {
            hall.load(bag);
        }
        hall.board(4, true);
        hall.pass(30);
        Check.equal("flights, then bags, whatever their places",
                " 3@11 7@10 11@11 2@10 6@11 10@11 1@11 5@11 9@10 0@11 4@9 8@11", Check.scansFrom(hall, 16));
    }

    /** "its bags are gone through once": the next minutes find nothing to move, and later boarding is no matter. */
    private static void departureIsOnce() {
        BagHall hall = Halls.withFlights(30);
        Halls.transfer(hall, 0, 3);
        hall.load(0);
        hall.load(1);
        hall.board(1, true);
        Check.equal("pass(30)", 3, hall.pass(30));
        hall.board(0, true);
        hall.board(1, false);
        Check.equal("pass(1)", 0, hall.pass(1));
        Check.equal("pass(200)", 0, hall.pass(200));
        Check.equal("the scans", " 0@10 1@9 2@11", Check.scansFrom(hall, 5));
    }

    private static void departureOfTheLastFlightAndBag() {
        BagHall hall = Halls.withFlights(50, 50, 50, 50, 110, 110, 110, 110, 170, 171);
        for (int bag = 0; bag < 48; bag++) {
            hall.transfer(9, 0);
        }
        hall.pass(114);
        Check.equal("flight 9 opens at 111: bags at the lateral", 48, hall.count(BagHall.LATERAL));
        hall.load(47);
        Check.equal("the minutes before its departure", 0, hall.pass(56));
        Check.equal("its departure", 48, hall.pass(1));
        Check.equal("the first bag", BagHall.LATE, hall.placeOf(0));
        Check.equal("the last bag", BagHall.OFFLOADED, hall.placeOf(47));
    }
}
