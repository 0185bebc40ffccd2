/** The terms that many promises rest on: how a bag is routed, how a minute passes, what is scanned. */
public final class MinuteTest {
    public static void main(String[] args) {
        storeFillsBeforeLoop();
        storeEmptiesInItsOrder();
        storeKeepsWhatHasNotOpened();
        storeOrderIsOfComingNotOfNumbers();
        storeComesBeforeLoop();
        loopGoesByNumbers();
        loopIsNotScannedAgain();
        loopGoesToLateralWithoutLimit();
        loopGoesToLateralPastAFullStore();
        openingMinute();
        closingMinute();
        departure();
        departuresByNumbers();
        boardingIsAskedAtTheDeparture();
        lateralIsSharedInTurn();
        Check.end("MinuteTest");
    }

    private static void storeFillsBeforeLoop() {
        BagHall hall = Halls.withFlights(500, 600);
        Halls.transfer(hall, 0, 7);
        Halls.transfer(hall, 1, 3);
        Check.equal("the first 8 to the store, the others to the loop",
                " 0@5 1@5 2@5 3@5 4@5 5@5 6@5 7@5 8@6 9@6", Check.scansFrom(hall, 0));
    }

    private static void storeEmptiesInItsOrder() {
        BagHall hall = Halls.withFlights(70);
        Halls.transfer(hall, 0, 8);
        Check.equal("pass(9)", 0, hall.pass(9));
        Check.equal("pass(1), as the flight opens", 3, hall.pass(1));
        Check.equal("pass(1), next", 3, hall.pass(1));
        Check.equal("pass(1), the rest", 2, hall.pass(1));
        Check.equal("the order", " 0@7 1@7 2@7 3@7 4@7 5@7 6@7 7@7", Check.scansFrom(hall, 8));
        Check.equal("pass(1), nothing is left", 0, hall.pass(1));
    }

    private static void storeKeepsWhatHasNotOpened() {
        BagHall hall = Halls.withFlights(200, 70);
        for (int bag = 0; bag < 8; bag++) {
            hall.transfer(bag % 2, bag);
        }
        hall.pass(10);
        Check.equal("those of the open flight alone", " 1@7 3@7 5@7", Check.scansFrom(hall, 8));
        hall.pass(1);
        Check.equal("and the last one", " 7@7", Check.scansFrom(hall, 11));
        hall.pass(128);
        Check.equal("nothing but the departure", " 1@11 3@11 5@11 7@11", Check.scansFrom(hall, 12));
        hall.pass(1);
        Check.equal("those of the other flight", " 0@7 2@7 4@7", Check.scansFrom(hall, 16));
    }

    /** Bag 0 comes to the store behind bags 1 to 4, and leaves it behind them. */
    private static void storeOrderIsOfComingNotOfNumbers() {
        BagHall hall = Halls.withFlights(80);
        hall.checkIn(0, 0);
        Halls.transfer(hall, 0, 4);
        hall.pass(2);
        hall.decide(0, true);
        hall.pass(18);
        Check.equal("the order", " 1@7 2@7 3@7", Check.scansFrom(hall, 6));
        hall.pass(1);
        Check.equal("the order then", " 4@7 0@7", Check.scansFrom(hall, 9));
        storeOrderBehindTheLoop();
    }

    /** Flight 1 opens first: bags 8 to 10 come out of the loop into the places left, and leave last. */
    private static void storeOrderBehindTheLoop() {
        BagHall hall = Halls.withFlights(90, 70);
        hall.checkIn(0, 0);
        Halls.transfer(hall, 0, 4);
        Halls.transfer(hall, 1, 4);
        hall.pass(2);
        Check.equal("decide(0, true) with a full store", BagHall.LOOP, hall.decide(0, true));
        hall.transfer(0, 0);
        hall.pass(8);
        Check.equal("three leave the store, two come", " 5@7 6@7 7@7 0@5 9@5", Check.scansFrom(hall, 11));
        hall.pass(20);
        Check.equal("the last one of flight 1, and three of flight 0", " 8@7 1@7 2@7 3@7", Check.scansFrom(hall, 16));
        hall.pass(1);
        Check.equal("bag 0 behind bag 4", " 4@7 0@7 9@7", Check.scansFrom(hall, 20));
    }

    private static void storeComesBeforeLoop() {
        BagHall hall = Halls.withFlights(70, 500);
        Halls.transfer(hall, 0, 8);
        Halls.transfer(hall, 1, 4);
        Halls.transfer(hall, 0, 1);
        hall.pass(10);
        Check.equal("the store first, then the loop into what room is left",
                " 0@7 1@7 2@7 8@5 9@5 10@5 12@7", Check.scansFrom(hall, 13));
        hall.pass(1);
        Check.equal("the next minute", " 3@7 4@7 5@7 11@5", Check.scansFrom(hall, 20));
        hall.pass(1);
        Check.equal("the minute behind it", " 6@7 7@7", Check.scansFrom(hall, 24));
        Check.equal("count(STORE)", 4, hall.count(BagHall.STORE));
        Check.equal("a bag that came to the store out of the loop, before", BagHall.LOOP, hall.placeByScans(8, 9));
        Check.equal("a bag that came to the store out of the loop, then", BagHall.STORE, hall.placeByScans(8, 10));
    }

    private static void loopGoesByNumbers() {
        BagHall hall = Halls.withFlights(500, 70);
        hall.checkIn(0, 0);
        Halls.transfer(hall, 1, 8);
        Halls.transfer(hall, 0, 3);
        hall.pass(2);
        hall.decide(0, true);
        hall.pass(8);
        Check.equal("bag 0 leaves the loop first, though it came last",
                " 1@7 2@7 3@7 0@5 9@5 10@5", Check.scansFrom(hall, 13));
    }

    private static void loopIsNotScannedAgain() {
        BagHall hall = Halls.withFlights(1000);
        Halls.transfer(hall, 0, 20);
        Check.equal("no scan while nothing opens", 0, Check.passLong(hall, 939));
        Check.equal("count(LOOP)", 12, hall.count(BagHall.LOOP));
        Check.equal("placeByScans(19, 939)", BagHall.LOOP, hall.placeByScans(19, 939));
        Check.equal("3 out of the store, 12 out of the loop", 15, hall.pass(1));
    }

    private static void loopGoesToLateralWithoutLimit() {
        BagHall hall = Halls.withFlights(61);
        Halls.transfer(hall, 0, 14);
        hall.pass(1);
        Check.equal("the order", " 0@7 1@7 2@7 8@7 9@7 10@7 11@7 12@7 13@7", Check.scansFrom(hall, 14));
    }

    private static void loopGoesToLateralPastAFullStore() {
        BagHall hall = Halls.withFlights(500, 70);
        Halls.transfer(hall, 0, 8);
        Halls.transfer(hall, 1, 2);
        Check.equal("pass(9)", 0, hall.pass(9));
        Check.equal("pass(1)", 2, hall.pass(1));
        Check.equal("no other bag is at a lateral", " 8@7 9@7", Check.scansFrom(hall, 10));
        Check.equal("count(STORE)", 8, hall.count(BagHall.STORE));
    }

    private static void openingMinute() {
        BagHall hall = Halls.withFlights(61);
        hall.transfer(0, 0);
        Check.equal("61 minutes before", BagHall.STORE, hall.placeOf(0));
        hall.pass(1);
        Check.equal("60 minutes before", BagHall.LATERAL, hall.placeOf(0));
        hall.transfer(0, 0);
        Check.equal("another bag then", BagHall.LATERAL, hall.placeOf(1));
        Check.equal("its scan", " 1@7", Check.scansFrom(hall, 2));
    }

    private static void closingMinute() {
        BagHall hall = Halls.withFlights(12);
        hall.transfer(0, 0);
        hall.pass(1);
        hall.transfer(0, 0);
        Check.equal("11 minutes before", BagHall.LATERAL, hall.placeOf(1));
        hall.pass(1);
        hall.transfer(0, 0);
        Check.equal("10 minutes before", BagHall.LATE, hall.placeOf(2));
        Check.equal("a bag at the lateral stays there", BagHall.LATERAL, hall.placeOf(0));
        Check.equal("load(0), though the flight has closed", 1, hall.load(0));
        Check.equal("pass(9)", 0, hall.pass(9));
        Check.equal("a bag at the lateral stays till the departure", BagHall.LATERAL, hall.placeOf(1));
        Check.equal("pass(1)", 2, hall.pass(1));
        Check.equal("and is late then", BagHall.LATE, hall.placeOf(1));
    }

    private static void departure() {
        BagHall hall = Halls.withFlights(30, 31);
        Halls.transfer(hall, 0, 6);
        hall.checkIn(0, 6);
        hall.transfer(1, 0);
        for (int bag = 0; bag < 4; bag++) {
            hall.load(bag);
        }
        hall.load(7);
        hall.board(0, true);
        hall.board(2, true);
        hall.offload(2);
        hall.sendOn(2, 0);
        hall.offload(3);
        hall.sendOn(3, 0);
        hall.load(3);
        hall.offload(1);
        int before = hall.scans();
        Check.equal("pass(29)", 0, hall.pass(29));
        Check.equal("pass(1)", 5, hall.pass(1));
        Check.equal("loaded ones are flown, the rest is late; offloaded and screened ones stay",
                " 0@9 2@11 3@9 4@11 5@11", Check.scansFrom(hall, before));
        Check.equal("the screened one", BagHall.SCREEN_1, hall.placeOf(6));
        Check.equal("the offloaded one", BagHall.OFFLOADED, hall.placeOf(1));
        Check.equal("the one of the other flight", BagHall.LOADED, hall.placeOf(7));
        Check.equal("pass(1), the other departure", 1, hall.pass(1));
        Check.equal("it is flown", BagHall.FLOWN, hall.placeOf(7));
        Check.equal("nothing moves then", 0, hall.pass(200));
    }

    private static void departuresByNumbers() {
        BagHall hall = Halls.withFlights(30, 30, 30);
        hall.transfer(2, 0);
        hall.transfer(1, 0);
        hall.transfer(0, 0);
        hall.transfer(2, 0);
        hall.transfer(0, 0);
        Check.equal("pass(30)", 5, hall.pass(30));
        Check.equal("by flights, then by bags", " 2@11 4@11 1@11 0@11 3@11", Check.scansFrom(hall, 5));
    }

    private static void boardingIsAskedAtTheDeparture() {
        BagHall hall = Halls.withFlights(30, 40);
        Halls.transfer(hall, 0, 2);
        hall.load(0);
        hall.load(1);
        hall.board(1, true);
        hall.pass(29);
        hall.board(0, true);
        hall.board(1, false);
        hall.pass(1);
        Check.equal("who boarded a minute before", BagHall.FLOWN, hall.placeOf(0));
        Check.equal("who left a minute before", BagHall.OFFLOADED, hall.placeOf(1));
        hall.board(0, false);
        hall.board(1, true);
        hall.pass(10);
        Check.equal("who left behind the departure", BagHall.FLOWN, hall.placeOf(0));
        Check.equal("who boarded behind the departure", BagHall.OFFLOADED, hall.placeOf(1));
    }

    /** A flight departs in the minute in which the next one at its lateral opens. */
    private static void lateralIsSharedInTurn() {
        BagHall hall = Halls.withFlights(50, 110);
        Check.equal("lateralOf(1)", 0, hall.lateralOf(1));
        hall.transfer(0, 0);
        hall.transfer(1, 0);
        hall.pass(49);
        Check.equal("atLateral(0) before", 1, hall.atLateral(0));
        hall.pass(1);
        Check.equal("the new one comes, then the old one is late", " 1@7 0@11", Check.scansFrom(hall, 2));
        Check.equal("atLateral(0) then", 1, hall.atLateral(0));
    }
}
