/** Promises 1 to 6: a new object, flights, riders, time. */
public final class FlightTest {
    public static void main(String[] args) {
        promise1NewObject();
        promise2AddFlight();
        promise2AddFlightRefused();
        promise2AddFlightLater();
        promise3Board();
        promise4Pass();
        promise5Time();
        promise6LateralOf();
        promise6NoLateral();
        promise6DepartedFlightsKeepTheirLateral();
        Check.end("FlightTest");
    }

    private static void promise1NewObject() {
        BagHall hall = new BagHall();
        Check.equal("time() of a new hall", 0, hall.time());
        Check.equal("bags() of a new hall", 0, hall.bags());
        Check.equal("scans() of a new hall", 0, hall.scans());
        for (int place = 1; place <= 11; place++) {
            Check.equal("count(" + place + ") of a new hall", 0, hall.count(place));
        }
        for (int lateral = 0; lateral < 4; lateral++) {
            Check.equal("atLateral(" + lateral + ") of a new hall", 0, hall.atLateral(lateral));
        }
        for (int rider = 0; rider < 40; rider++) {
            Check.isFalse("board(" + rider + ") of a new hall", hall.board(rider, false));
        }
        Check.noIndex("lateralOf(0) of a new hall", hall, () -> hall.lateralOf(0));
        Check.noIndex("placeOf(0) of a new hall", hall, () -> hall.placeOf(0));
        Check.noIndex("bagOfScan(0) of a new hall", hall, () -> hall.bagOfScan(0));
        BagHall other = new BagHall();
        other.addFlight(100);
        other.transfer(0, 0);
        Check.equal("bags() beside another hall", 0, hall.bags());
    }

    private static void promise2AddFlight() {
        BagHall hall = new BagHall();
        int[] minutes = {1, 1000, 30, 30, 30, 30, 30, 30, 30, 30};
        for (int flight = 0; flight < 10; flight++) {
            Check.equal("addFlight number " + flight, flight, hall.addFlight(minutes[flight]));
        }
        Check.equal("untilClose of a flight in 1 minute", 0, hall.untilClose(0));
        Check.equal("untilClose of a flight in 1000 minutes", 990, hall.untilClose(1));
        Check.noState("addFlight(30) as the 11th", hall, () -> hall.addFlight(30));
        Check.noArgument("addFlight(0) as the 11th", hall, () -> hall.addFlight(0));
        Check.noArgument("addFlight(1001) as the 11th", hall, () -> hall.addFlight(1001));
        hall.pass(200);
        Check.noState("addFlight(30) as the 11th, when some have departed", hall, () -> hall.addFlight(30));
    }

    private static void promise2AddFlightRefused() {
        BagHall hall = new BagHall();
        int[] outOfRange = {0, -1, 1001, Integer.MIN_VALUE, Integer.MAX_VALUE};
        for (int minutes : outOfRange) {
            Check.noArgument("addFlight(" + minutes + ")", hall, () -> hall.addFlight(minutes));
        }
        Check.equal("addFlight behind refused ones", 0, hall.addFlight(1));
    }

    private static void promise2AddFlightLater() {
        BagHall hall = new BagHall();
        hall.pass(15);
        hall.addFlight(20);
        Check.equal("untilClose at once", 10, hall.untilClose(0));
        hall.transfer(0, 3);
        hall.pass(19);
        Check.equal("a bag a minute before the departure", BagHall.LATERAL, hall.placeOf(0));
        hall.pass(1);
        Check.equal("a bag at the departure", BagHall.LATE, hall.placeOf(0));
        Check.equal("the time of the departure", 35, hall.time());
    }

    private static void promise3Board() {
        BagHall hall = new BagHall();
        Check.isFalse("board(0, true) first", hall.board(0, true));
        Check.isTrue("board(0, true) again", hall.board(0, true));
        Check.isTrue("board(0, false)", hall.board(0, false));
        Check.isFalse("board(0, false) again", hall.board(0, false));
        Check.isFalse("board(39, true)", hall.board(39, true));
        Check.isFalse("board(38, false) beside 39", hall.board(38, false));
        Check.isTrue("board(39, false)", hall.board(39, false));
        hall.board(7, true);
        int[] noRiders = {-1, 40, 41, Integer.MIN_VALUE, Integer.MAX_VALUE};
        for (int rider : noRiders) {
            Check.noIndex("board(" + rider + ", true)", hall, () -> hall.board(rider, true));
            Check.noIndex("board(" + rider + ", false)", hall, () -> hall.board(rider, false));
        }
        hall.pass(200);
        Check.isTrue("board(7, true) 200 minutes on", hall.board(7, true));
    }

    private static void promise4Pass() {
        BagHall hall = new BagHall();
        int[] outOfRange = {0, -1, 201, Integer.MIN_VALUE, Integer.MAX_VALUE};
        for (int minutes : outOfRange) {
            Check.noArgument("pass(" + minutes + ")", hall, () -> hall.pass(minutes));
        }
        Check.equal("pass(200) of an empty hall", 0, hall.pass(200));
        Check.equal("time() behind pass(200)", 200, hall.time());
        Check.equal("pass(1) of an empty hall", 0, hall.pass(1));
        Check.equal("time() behind pass(1)", 201, hall.time());

        hall.addFlight(100);
        for (int bag = 0; bag < 9; bag++) {
            hall.transfer(0, bag);
        }
        Check.equal("pass(39) before the flight opens", 0, hall.pass(39));
        Check.equal("pass(1) as it opens: 3 out of the store, 1 out of the loop", 4, hall.pass(1));
        Check.equal("pass(2): the other 5", 5, hall.pass(2));
        Check.equal("pass(57) to a minute before the departure", 0, hall.pass(57));
        Check.equal("pass(1): 9 bags are late", 9, hall.pass(1));
        Check.equal("scans() behind all", 27, hall.scans());
        Check.noArgument("pass(0) with bags", hall, () -> hall.pass(0));
        Check.noArgument("pass(201) with bags", hall, () -> hall.pass(201));

        BagHall longWay = new BagHall();
        longWay.addFlight(100);
        for (int bag = 0; bag < 9; bag++) {
            longWay.transfer(0, bag);
        }
        Check.equal("pass(200) over all of it", 18, longWay.pass(200));
        Check.equal("the scans in one pass, minute by minute",
                " 0@5 1@5 2@5 3@5 4@5 5@5 6@5 7@5 8@6 0@7 1@7 2@7 8@7 3@7 4@7 5@7 6@7 7@7"
                        + " 0@11 1@11 2@11 3@11 4@11 5@11 6@11 7@11 8@11",
                Check.scansFrom(longWay, 0));
    }

    private static void promise5Time() {
        BagHall hall = new BagHall();
        int time = 0;
        for (int minutes = 1; minutes <= 200; minutes += 7) {
            hall.pass(minutes);
            time += minutes;
            Check.equal("time() behind pass(" + minutes + ")", time, hall.time());
        }
        hall.addFlight(50);
        hall.checkIn(0, 0);
        hall.board(0, true);
        Check.equal("time() behind other calls", time, hall.time());
    }

    private static void promise6LateralOf() {
        BagHall hall = new BagHall();
        int[] minutes = {100, 160, 159, 41, 40, 100, 219, 101};
        int[] laterals = {0, 0, 1, 1, 0, 2, 1, 3};
        for (int flight = 0; flight < minutes.length; flight++) {
            hall.addFlight(minutes[flight]);
            Check.equal("lateralOf(" + flight + ")", laterals[flight], hall.lateralOf(flight));
        }
        hall.pass(10);
        for (int flight = 0; flight < minutes.length; flight++) {
            Check.equal("lateralOf(" + flight + ") later", laterals[flight], hall.lateralOf(flight));
        }
        int[] noFlights = {-1, 8, 9, 10, Integer.MIN_VALUE, Integer.MAX_VALUE};
        for (int flight : noFlights) {
            Check.noIndex("lateralOf(" + flight + ")", hall, () -> hall.lateralOf(flight));
        }
    }

    private static void promise6NoLateral() {
        BagHall hall = new BagHall();
        for (int flight = 0; flight < 4; flight++) {
            hall.addFlight(100);
            Check.equal("lateralOf(" + flight + ") of flights at one time", flight, hall.lateralOf(flight));
        }
        hall.addFlight(159);
        hall.addFlight(41);
        hall.addFlight(100);
        Check.equal("lateralOf(4)", BagHall.NONE, hall.lateralOf(4));
        Check.equal("lateralOf(5)", BagHall.NONE, hall.lateralOf(5));
        Check.equal("lateralOf(6)", BagHall.NONE, hall.lateralOf(6));
        hall.addFlight(160);
        Check.equal("lateralOf(7): a flight without a lateral takes none", 0, hall.lateralOf(7));
        hall.addFlight(40);
        Check.equal("lateralOf(8)", 0, hall.lateralOf(8));
        hall.transfer(4, 0);
        Check.equal("a bag to a flight without a lateral", BagHall.LATE, hall.placeOf(0));
        hall.pass(150);
        Check.equal("lateralOf(4), for good", BagHall.NONE, hall.lateralOf(4));
    }

    private static void promise6DepartedFlightsKeepTheirLateral() {
        BagHall hall = new BagHall();
        hall.addFlight(10);
        hall.pass(20);
        hall.addFlight(49);
        Check.equal("59 minutes behind a departed flight", 1, hall.lateralOf(1));
        hall.addFlight(50);
        Check.equal("60 minutes behind a departed flight", 0, hall.lateralOf(2));
    }
}
