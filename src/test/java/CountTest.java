/** Promises 18 to 24: counts and scans. */
public final class CountTest {
    public static void main(String[] args) {
        promise18Count();
        promise19AtLateral();
        promise20Unmatched();
        promise21UntilClose();
        promise22Scans();
        promises23And24Scan();
        Check.end("CountTest");
    }

    private static void promise18Count() {
        BagHall hall = new BagHall();
        hall.addFlight(400);
        for (int bag = 0; bag < 7; bag++) {
            hall.checkIn(0, bag);
        }
        counts("7 checked in", hall, 7, 0, 0, 0, 0, 0, 0, 0, 0, 0, 0);
        hall.pass(2);
        for (int bag = 0; bag < 6; bag++) {
            hall.decide(bag, false);
        }
        counts("6 to level 2", hall, 1, 6, 0, 0, 0, 0, 0, 0, 0, 0, 0);
        hall.pass(4);
        for (int bag = 0; bag < 4; bag++) {
            hall.decide(bag, false);
        }
        counts("4 to level 3", hall, 1, 2, 4, 0, 0, 0, 0, 0, 0, 0, 0);
        hall.pass(10);
        for (int bag = 0; bag < 3; bag++) {
            hall.decide(bag, false);
        }
        counts("3 held", hall, 1, 2, 1, 3, 0, 0, 0, 0, 0, 0, 0);
        hall.letGo(0);
        for (int bag = 0; bag < 12; bag++) {
            hall.transfer(0, bag);
        }
        counts("13 routed", hall, 1, 2, 1, 2, 8, 5, 0, 0, 0, 0, 0);
        hall.pass(200);
        hall.pass(124);
        counts("as the flight opens", hall, 1, 2, 1, 2, 5, 0, 8, 0, 0, 0, 0);
        hall.pass(2);
        counts("2 minutes on", hall, 1, 2, 1, 2, 0, 0, 13, 0, 0, 0, 0);
        hall.board(0, true);
        for (int bag = 7; bag < 13; bag++) {
            hall.load(bag);
        }
        hall.offload(12);
        counts("loaded", hall, 1, 2, 1, 2, 0, 0, 7, 5, 0, 1, 0);
        hall.pass(58);
        counts("departed", hall, 1, 2, 1, 2, 0, 0, 0, 0, 1, 5, 7);
        int[] noPlaces = {0, -1, 12, Integer.MIN_VALUE, Integer.MAX_VALUE};
        for (int place : noPlaces) {
            Check.noArgument("count(" + place + ")", hall, () -> hall.count(place));
        }
    }

    private static void counts(String what, BagHall hall, int... due) {
        for (int place = BagHall.SCREEN_1; place <= BagHall.LATE; place++) {
            Check.equal("count(" + place + "), " + what, due[place - 1], hall.count(place));
        }
    }

    private static void promise19AtLateral() {
        BagHall hall = new BagHall();
        int[] minutes = {50, 51, 52, 53, 110, 54};
        int[] bags = {1, 2, 3, 4, 2, 1};
        for (int flight = 0; flight < minutes.length; flight++) {
            hall.addFlight(minutes[flight]);
            for (int bag = 0; bag < bags[flight]; bag++) {
                hall.transfer(flight, 0);
            }
        }
        Check.equal("lateralOf(4)", 0, hall.lateralOf(4));
        Check.equal("lateralOf(5)", BagHall.NONE, hall.lateralOf(5));
        laterals("at first", hall, 1, 2, 3, 4);
        hall.load(1);
        hall.load(9);
        laterals("when two are loaded", hall, 1, 1, 3, 3);
        hall.pass(49);
        laterals("a minute before the departure", hall, 1, 1, 3, 3);
        hall.pass(1);
        laterals("at the departure of one flight and the opening of another one", hall, 2, 1, 3, 3);
        hall.pass(3);
        laterals("when four have departed", hall, 2, 0, 0, 0);
        int[] noLaterals = {-1, 4, Integer.MIN_VALUE, Integer.MAX_VALUE};
        for (int lateral : noLaterals) {
            Check.noIndex("atLateral(" + lateral + ")", hall, () -> hall.atLateral(lateral));
        }
    }

    private static void laterals(String what, BagHall hall, int... due) {
        for (int lateral = 0; lateral < 4; lateral++) {
            Check.equal("atLateral(" + lateral + "), " + what, due[lateral], hall.atLateral(lateral));
        }
    }

    private static void promise20Unmatched() {
        BagHall hall = new BagHall();
        hall.addFlight(30);
        hall.addFlight(30);
        hall.transfer(0, 1);
        hall.transfer(0, 1);
        hall.transfer(0, 2);
        hall.transfer(1, 2);
        hall.transfer(0, 39);
        Check.equal("unmatched(0) of bags at the lateral", 0, hall.unmatched(0));
        for (int bag = 0; bag < 4; bag++) {
            hall.load(bag);
        }
        Check.equal("unmatched(0)", 3, hall.unmatched(0));
        Check.equal("unmatched(1)", 1, hall.unmatched(1));
        hall.board(1, true);
        Check.equal("unmatched(0), rider 1 has boarded", 1, hall.unmatched(0));
        hall.board(2, true);
        Check.equal("unmatched(0), rider 2 too", 0, hall.unmatched(0));
        Check.equal("unmatched(1), rider 2 too", 0, hall.unmatched(1));
        hall.board(1, false);
        Check.equal("unmatched(0), rider 1 has left", 2, hall.unmatched(0));
        hall.offload(0);
        Check.equal("unmatched(0), one offloaded", 1, hall.unmatched(0));
        hall.sendOn(0, 0);
        Check.equal("unmatched(0), sent on to the lateral", 1, hall.unmatched(0));
        hall.load(0);
        Check.equal("unmatched(0), loaded on purpose", 1, hall.unmatched(0));
        Check.equal("at the departure each loaded bag moves once, and one is late", 5, hall.pass(30));
        Check.equal("the departures, by rising numbers", " 0@9 1@10 2@9 4@11 3@9", Check.scansFrom(hall, 12));
        Check.equal("unmatched(0) behind the departure", 0, hall.unmatched(0));
        int[] noFlights = {-1, 2, 10, Integer.MIN_VALUE, Integer.MAX_VALUE};
        for (int flight : noFlights) {
            Check.noIndex("unmatched(" + flight + ")", hall, () -> hall.unmatched(flight));
        }
    }

    private static void promise21UntilClose() {
        BagHall hall = new BagHall();
        int[] minutes = {1000, 71, 70, 69, 60, 11, 10, 9, 1};
        for (int flight = 0; flight < minutes.length; flight++) {
            hall.addFlight(minutes[flight]);
        }
        for (int time = 0; time <= 75; time++) {
            for (int flight = 0; flight < minutes.length; flight++) {
                Check.equal("untilClose(" + flight + ") at " + time, Math.max(0, minutes[flight] - 10 - time), hall.untilClose(flight));
            }
            hall.pass(1);
        }
        int[] noFlights = {-1, 9, 10, Integer.MIN_VALUE, Integer.MAX_VALUE};
        for (int flight : noFlights) {
            Check.noIndex("untilClose(" + flight + ")", hall, () -> hall.untilClose(flight));
        }
    }

    private static void promise22Scans() {
        BagHall hall = new BagHall();
        hall.addFlight(62);
        Check.equal("scans()", 0, hall.scans());
        hall.checkIn(0, 0);
        Check.equal("scans() behind checkIn", 1, hall.scans());
        hall.pass(1);
        Check.equal("scans() behind a minute", 1, hall.scans());
        hall.pass(1);
        hall.decide(0, false);
        Check.equal("scans() behind decide", 2, hall.scans());
        hall.pass(4);
        hall.decide(0, true);
        Check.equal("scans() behind the route", 3, hall.scans());
        hall.load(0);
        hall.offload(0);
        hall.sendOn(0, 0);
        Check.equal("scans() behind load, offload, sendOn", 6, hall.scans());
        hall.pass(56);
        Check.equal("scans() behind the departure", 7, hall.scans());
    }

    private static void promises23And24Scan() {
        BagHall hall = new BagHall();
        hall.addFlight(62);
        hall.addFlight(63);
        hall.checkIn(0, 0);
        hall.transfer(1, 1);
        hall.checkIn(1, 2);
        hall.pass(2);
        hall.decide(2, false);
        hall.decide(0, true);
        hall.load(0);
        hall.pass(1);
        hall.pass(4);
        hall.decide(2, true);
        int[] bags = {0, 1, 2, 2, 0, 0, 1, 2};
        int[] places = {1, 5, 1, 2, 7, 8, 7, 7};
        Check.equal("scans()", bags.length, hall.scans());
        for (int scan = 0; scan < bags.length; scan++) {
            Check.equal("bagOfScan(" + scan + ")", bags[scan], hall.bagOfScan(scan));
            Check.equal("placeOfScan(" + scan + ")", places[scan], hall.placeOfScan(scan));
        }
        int[] noScans = {-1, bags.length, 4096, Integer.MIN_VALUE, Integer.MAX_VALUE};
        for (int scan : noScans) {
            Check.noIndex("bagOfScan(" + scan + ")", hall, () -> hall.bagOfScan(scan));
            Check.noIndex("placeOfScan(" + scan + ")", hall, () -> hall.placeOfScan(scan));
        }
    }
}
