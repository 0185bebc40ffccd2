/** Promises 7 to 17: bags. */
public final class BagTest {
    private static final int[] NO_RIDERS = {-1, 40, Integer.MIN_VALUE, Integer.MAX_VALUE};

    public static void main(String[] args) {
        promise7CheckIn();
        promise7CheckInRefused();
        promise8Transfer();
        promise8TransferRefused();
        promises7And8FullHall();
        promise9DecideNot();
        promise9DecideClear();
        promise9DecideRefused();
        promise10LetGo();
        promise10LetGoRefused();
        promise11Load();
        promise11LoadRefused();
        promise12Offload();
        promise12OffloadRefused();
        promise13SendOn();
        promise13SendOnRefused();
        promise14Bags();
        promise15PlaceOf();
        promise16PlaceByScans();
        promise17FlightOf();
        Check.end("BagTest");
    }

    private static void promise7CheckIn() {
        BagHall hall = new BagHall();
        hall.addFlight(200);
        hall.addFlight(20);
        hall.addFlight(5);
        Check.equal("checkIn(0, 0)", 0, hall.checkIn(0, 0));
        Check.equal("checkIn(1, 39)", 1, hall.checkIn(1, 39));
        Check.equal("checkIn(2, 39) to a flight that has closed", 2, hall.checkIn(2, 39));
        for (int bag = 0; bag < 3; bag++) {
            Check.equal("placeOf(" + bag + ")", BagHall.SCREEN_1, hall.placeOf(bag));
            Check.equal("flightOf(" + bag + ")", bag, hall.flightOf(bag));
        }
        Check.equal("scans of bags checked in", " 0@1 1@1 2@1", Check.scansFrom(hall, 0));
        Check.equal("no minute brings a bag out of its screening", 0, hall.pass(200));
        Check.equal("placeOf(0) long behind the departure", BagHall.SCREEN_1, hall.placeOf(0));
    }

    private static void promise7CheckInRefused() {
        BagHall hall = new BagHall();
        Check.noIndex("checkIn(0, 0) without flights", hall, () -> hall.checkIn(0, 0));
        hall.addFlight(5);
        for (int rider : NO_RIDERS) {
            Check.noIndex("checkIn(0, " + rider + ")", hall, () -> hall.checkIn(0, rider));
        }
        int[] noFlights = {-1, 1, 10, Integer.MIN_VALUE, Integer.MAX_VALUE};
        for (int flight : noFlights) {
            Check.noIndex("checkIn(" + flight + ", 0)", hall, () -> hall.checkIn(flight, 0));
        }
        hall.pass(4);
        Check.equal("checkIn a minute before the departure", 0, hall.checkIn(0, 0));
        hall.pass(1);
        Check.noState("checkIn at the departure", hall, () -> hall.checkIn(0, 0));
        Check.noIndex("checkIn of no rider at the departure", hall, () -> hall.checkIn(0, 40));
        hall.pass(100);
        Check.noState("checkIn behind the departure", hall, () -> hall.checkIn(0, 0));
    }

    private static void promise8Transfer() {
        BagHall hall = new BagHall();
        hall.addFlight(61);
        hall.addFlight(60);
        hall.addFlight(11);
        hall.addFlight(10);
        Check.equal("transfer(0, 39)", 0, hall.transfer(0, 39));
        Check.equal("transfer(1, 0)", 1, hall.transfer(1, 0));
        Check.equal("transfer(2, 0)", 2, hall.transfer(2, 0));
        Check.equal("transfer(3, 0)", 3, hall.transfer(3, 0));
        Check.equal("61 minutes before", BagHall.STORE, hall.placeOf(0));
        Check.equal("60 minutes before", BagHall.LATERAL, hall.placeOf(1));
        Check.equal("11 minutes before", BagHall.LATERAL, hall.placeOf(2));
        Check.equal("10 minutes before", BagHall.LATE, hall.placeOf(3));
        hall.addFlight(30);
        Check.equal("lateralOf(4)", BagHall.NONE, hall.lateralOf(4));
        Check.equal("transfer(4, 0)", 4, hall.transfer(4, 0));
        Check.equal("no lateral", BagHall.LATE, hall.placeOf(4));
        hall.addFlight(1000);
        Check.equal("transfer(5, 0)", 5, hall.transfer(5, 0));
        Check.equal("1000 minutes before", BagHall.STORE, hall.placeOf(5));
        for (int bag = 0; bag < 6; bag++) {
            Check.equal("flightOf(" + bag + ")", bag, hall.flightOf(bag));
        }
        Check.equal("each is scanned once", " 0@5 1@7 2@7 3@11 4@11 5@5", Check.scansFrom(hall, 0));
    }

    private static void promise8TransferRefused() {
        BagHall hall = new BagHall();
        Check.noIndex("transfer(0, 0) without flights", hall, () -> hall.transfer(0, 0));
        hall.addFlight(70);
        hall.addFlight(5);
        for (int rider : NO_RIDERS) {
            Check.noIndex("transfer(0, " + rider + ")", hall, () -> hall.transfer(0, rider));
        }
        int[] noFlights = {-1, 2, 10, Integer.MIN_VALUE, Integer.MAX_VALUE};
        for (int flight : noFlights) {
            Check.noIndex("transfer(" + flight + ", 0)", hall, () -> hall.transfer(flight, 0));
        }
        hall.pass(5);
        Check.noState("transfer at the departure", hall, () -> hall.transfer(1, 0));
        Check.noIndex("transfer of no rider at the departure", hall, () -> hall.transfer(1, -1));
        Check.equal("transfer to the other flight", 0, hall.transfer(0, 0));
    }

    private static void promises7And8FullHall() {
        BagHall hall = new BagHall();
        hall.addFlight(300);
        hall.addFlight(1);
        for (int bag = 0; bag < 48; bag++) {
            int number = bag % 2 == 0 ? hall.checkIn(0, bag % 40) : hall.transfer(0, bag % 40);
            Check.equal("the number of bag " + bag, bag, number);
        }
        Check.noState("checkIn as the 49th", hall, () -> hall.checkIn(0, 0));
        Check.noState("transfer as the 49th", hall, () -> hall.transfer(0, 0));
        Check.noIndex("checkIn of no rider as the 49th", hall, () -> hall.checkIn(0, 40));
        Check.noIndex("transfer of no rider as the 49th", hall, () -> hall.transfer(0, 40));
        Check.noIndex("checkIn to no flight as the 49th", hall, () -> hall.checkIn(2, 0));
        Check.noIndex("transfer to no flight as the 49th", hall, () -> hall.transfer(2, 0));
        Check.equal("bags()", 48, hall.bags());
        hall.pass(1);
        Check.noState("checkIn as the 49th to a departed flight", hall, () -> hall.checkIn(1, 0));
        Check.noState("transfer as the 49th to a departed flight", hall, () -> hall.transfer(1, 0));
        Check.passLong(hall, 400);
        hall.addFlight(400);
        Check.noState("checkIn as the 49th, when all flights have departed", hall, () -> hall.checkIn(2, 0));
    }

    private static void promise9DecideNot() {
        BagHall hall = new BagHall();
        hall.addFlight(500);
        hall.pass(3);
        hall.checkIn(0, 0);
        refuseToDecide(hall, 2);
        Check.equal("from SCREEN_1", BagHall.SCREEN_2, hall.decide(0, false));
        refuseToDecide(hall, 4);
        Check.equal("from SCREEN_2", BagHall.SCREEN_3, hall.decide(0, false));
        refuseToDecide(hall, 10);
        Check.equal("from SCREEN_3", BagHall.HELD, hall.decide(0, false));
        Check.equal("the scans", " 0@1 0@2 0@3 0@4", Check.scansFrom(hall, 0));
        Check.equal("placeOf(0)", BagHall.HELD, hall.placeOf(0));
    }

    /** A decision is refused in each minute before the level's time has passed. */
    private static void refuseToDecide(BagHall hall, int minutes) {
        for (int minute = 0; minute < minutes; minute++) {
            Check.noState("decide(0, false) at minute " + minute + " of " + minutes, hall, () -> hall.decide(0, false));
            Check.noState("decide(0, true) at minute " + minute + " of " + minutes, hall, () -> hall.decide(0, true));
            hall.pass(1);
        }
    }

    private static void promise9DecideClear() {
        int[] untilDeparture = {61, 60, 11, 10, 9};
        int[] places = {BagHall.STORE, BagHall.LATERAL, BagHall.LATERAL, BagHall.LATE, BagHall.LATE};
        int[] levelTimes = {2, 4, 10};
        for (int i = 0; i < places.length; i++) {
            int waited = 0;
            for (int level = 0; level < 3; level++) {
                waited += levelTimes[level];
                BagHall hall = new BagHall();
                hall.addFlight(untilDeparture[i] + waited);
                hall.checkIn(0, 0);
                for (int below = 0; below < level; below++) {
                    hall.pass(levelTimes[below]);
                    hall.decide(0, false);
                }
                hall.pass(levelTimes[level]);
                String what = "decide(0, true) on level " + (level + 1) + ", " + untilDeparture[i] + " minutes before";
                Check.equal(what, places[i], hall.decide(0, true));
                Check.equal(what + ": its place", places[i], hall.placeOf(0));
                Check.equal(what + ": its scans", level + 2, hall.scans());
            }
        }
        BagHall full = new BagHall();
        full.addFlight(500);
        for (int bag = 0; bag < 8; bag++) {
            full.transfer(0, 0);
        }
        full.checkIn(0, 0);
        full.pass(200);
        Check.equal("decide(8, true) with a full store, long behind its time", BagHall.LOOP, full.decide(8, true));
        BagHall departed = new BagHall();
        departed.addFlight(1);
        departed.checkIn(0, 0);
        departed.pass(2);
        Check.equal("decide(0, true) behind the departure", BagHall.LATE, departed.decide(0, true));
        BagHall notClear = new BagHall();
        notClear.addFlight(1);
        notClear.checkIn(0, 0);
        notClear.pass(50);
        Check.equal("decide(0, false) behind the departure", BagHall.SCREEN_2, notClear.decide(0, false));
    }

    private static void promise9DecideRefused() {
        BagHall hall = Halls.everyPlace();
        // No bag leaves its place in these minutes: each has been there for longer than any level takes.
        Check.equal("pass(20) of a hall with a bag at each place", 0, hall.pass(20));
        for (int bag = 0; bag < hall.bags(); bag++) {
            int number = bag;
            if (hall.placeOf(bag) > BagHall.SCREEN_3) {
                Check.noState("decide(, true) at " + hall.placeOf(bag), hall, () -> hall.decide(number, true));
                Check.noState("decide(, false) at " + hall.placeOf(bag), hall, () -> hall.decide(number, false));
            }
        }
        refuseBags("decide", hall, bag -> hall.decide(bag, true));
    }

    private static void promise10LetGo() {
        int[] untilDeparture = {61, 60, 11, 10, -5};
        int[] places = {BagHall.STORE, BagHall.LATERAL, BagHall.LATERAL, BagHall.LATE, BagHall.LATE};
        for (int i = 0; i < places.length; i++) {
            BagHall hall = new BagHall();
            hall.addFlight(untilDeparture[i] + 16);
            Halls.hold(hall, hall.checkIn(0, 0));
            Check.equal("letGo(0) " + untilDeparture[i] + " minutes before", places[i], hall.letGo(0));
            Check.equal("placeOf(0) then", places[i], hall.placeOf(0));
            Check.equal("scans() then", 5, hall.scans());
            Check.noState("letGo(0) again", hall, () -> hall.letGo(0));
        }
        BagHall full = new BagHall();
        full.addFlight(500);
        Halls.hold(full, full.checkIn(0, 0));
        for (int bag = 0; bag < 8; bag++) {
            full.transfer(0, 0);
        }
        Check.equal("letGo(0) with a full store", BagHall.LOOP, full.letGo(0));
    }

    private static void promise10LetGoRefused() {
        BagHall hall = Halls.everyPlace();
        for (int bag = 0; bag < hall.bags(); bag++) {
            int number = bag;
            if (hall.placeOf(bag) != BagHall.HELD) {
                Check.noState("letGo at " + hall.placeOf(bag), hall, () -> hall.letGo(number));
            }
        }
        refuseBags("letGo", hall, hall::letGo);
    }

    private static void promise11Load() {
        BagHall hall = new BagHall();
        hall.addFlight(50);
        hall.addFlight(50);
        for (int bag = 0; bag < 6; bag++) {
            hall.transfer(bag % 2, bag);
        }
        Check.equal("load(0)", 1, hall.load(0));
        Check.equal("load(1), of the other flight", 1, hall.load(1));
        Check.equal("load(4)", 2, hall.load(4));
        Check.equal("load(2)", 3, hall.load(2));
        Check.equal("placeOf(0)", BagHall.LOADED, hall.placeOf(0));
        Check.equal("placeOf(3)", BagHall.LATERAL, hall.placeOf(3));
        Check.equal("the scans", " 0@8 1@8 4@8 2@8", Check.scansFrom(hall, 6));
        hall.pass(49);
        Check.equal("load(3), when its flight has closed", 2, hall.load(3));
        hall.pass(1);
        hall.addFlight(50);
        hall.transfer(2, 0);
        Check.equal("load(6), when other flights have departed", 1, hall.load(6));
    }

    private static void promise11LoadRefused() {
        BagHall hall = Halls.everyPlace();
        for (int bag = 0; bag < hall.bags(); bag++) {
            int number = bag;
            if (hall.placeOf(bag) != BagHall.LATERAL) {
                Check.noState("load at " + hall.placeOf(bag), hall, () -> hall.load(number));
            }
        }
        refuseBags("load", hall, hall::load);
    }

    private static void promise12Offload() {
        BagHall hall = new BagHall();
        hall.addFlight(50);
        hall.addFlight(50);
        for (int bag = 0; bag < 6; bag++) {
            hall.transfer(bag % 2, bag);
            hall.load(bag);
        }
        Check.equal("offload(2)", 2, hall.offload(2));
        Check.equal("offload(3), of the other flight", 2, hall.offload(3));
        Check.equal("offload(0)", 1, hall.offload(0));
        Check.equal("offload(4)", 0, hall.offload(4));
        Check.equal("placeOf(4)", BagHall.OFFLOADED, hall.placeOf(4));
        Check.equal("placeOf(5)", BagHall.LOADED, hall.placeOf(5));
        Check.equal("flightOf(4)", 0, hall.flightOf(4));
        Check.equal("the scans", " 2@10 3@10 0@10 4@10", Check.scansFrom(hall, 12));
        Check.equal("only the 2 loaded bags are scanned at the departure", 2, hall.pass(50));
        Check.equal("placeOf(4) then", BagHall.OFFLOADED, hall.placeOf(4));
    }

    private static void promise12OffloadRefused() {
        BagHall hall = Halls.everyPlace();
        for (int bag = 0; bag < hall.bags(); bag++) {
            int number = bag;
            if (hall.placeOf(bag) != BagHall.LOADED) {
                Check.noState("offload at " + hall.placeOf(bag), hall, () -> hall.offload(number));
            }
        }
        refuseBags("offload", hall, hall::offload);
    }

    private static void promise13SendOn() {
        BagHall hall = new BagHall();
        hall.addFlight(50);
        hall.addFlight(200);
        hall.addFlight(10);
        hall.transfer(0, 0);
        hall.load(0);
        hall.offload(0);
        Check.equal("sendOn(0, 0), to the same flight", BagHall.LATERAL, hall.sendOn(0, 0));
        Check.equal("load(0) then", 1, hall.load(0));
        Check.equal("unmatched(0): it is on purpose", 0, hall.unmatched(0));
        hall.offload(0);
        Check.equal("sendOn(0, 2), to a flight that has closed", BagHall.LATE, hall.sendOn(0, 2));
        Check.equal("flightOf(0) then", 2, hall.flightOf(0));
        int before = hall.scans();
        Check.equal("sendOn(0, 2), LATE again", BagHall.LATE, hall.sendOn(0, 2));
        Check.equal("it is scanned", " 0@11", Check.scansFrom(hall, before));
        Check.equal("sendOn(0, 1)", BagHall.STORE, hall.sendOn(0, 1));
        Check.equal("flightOf(0) then", 1, hall.flightOf(0));
        for (int bag = 1; bag < 8; bag++) {
            hall.transfer(1, 1);
        }
        hall.transfer(2, 1);
        Check.equal("sendOn(8, 1) with a full store", BagHall.LOOP, hall.sendOn(8, 1));
        hall.pass(200);
        Check.equal("the bag at its lateral is LATE", BagHall.LATE, hall.placeOf(0));
        hall.addFlight(30);
        hall.sendOn(0, 3);
        hall.load(0);
        hall.transfer(3, 0);
        hall.load(9);
        Check.equal("unmatched(3): one bag is on purpose still, the other is not", 1, hall.unmatched(3));
        hall.pass(30);
        Check.equal("on purpose it is FLOWN", BagHall.FLOWN, hall.placeOf(0));
        Check.equal("the other one of its rider is OFFLOADED", BagHall.OFFLOADED, hall.placeOf(9));
        sendOnWithoutLateral();
    }

    private static void sendOnWithoutLateral() {
        BagHall hall = new BagHall();
        for (int flight = 0; flight < 5; flight++) {
            hall.addFlight(30);
        }
        hall.transfer(4, 0);
        Check.equal("sendOn(0, 4) without a lateral", BagHall.LATE, hall.sendOn(0, 4));
        Check.equal("sendOn(0, 3)", BagHall.LATERAL, hall.sendOn(0, 3));
        Check.equal("atLateral(3)", 1, hall.atLateral(3));
    }

    private static void promise13SendOnRefused() {
        BagHall hall = Halls.everyPlace();
        int departed = hall.flightOf(Halls.FLOWN_BAG);
        for (int bag = 0; bag < hall.bags(); bag++) {
            int number = bag;
            int place = hall.placeOf(bag);
            if (place != BagHall.OFFLOADED && place != BagHall.LATE) {
                Check.noState("sendOn from " + place, hall, () -> hall.sendOn(number, 1));
            }
            Check.noState("sendOn from " + place + " to a departed flight", hall, () -> hall.sendOn(number, departed));
            Check.noIndex("sendOn from " + place + " to flight -1", hall, () -> hall.sendOn(number, -1));
            Check.noIndex("sendOn from " + place + " to flight 3", hall, () -> hall.sendOn(number, 3));
        }
        refuseBags("sendOn", hall, bag -> hall.sendOn(bag, 1));
        refuseBags("sendOn to a departed flight", hall, bag -> hall.sendOn(bag, departed));
        // A refused call makes no bag be on purpose: rider 5 has not boarded.
        BagHall refused = new BagHall();
        refused.addFlight(50);
        refused.transfer(0, 5);
        refused.load(0);
        Check.noState("sendOn(0, 0) while it is loaded", refused, () -> refused.sendOn(0, 0));
        refused.pass(50);
        Check.equal("placeOf(0)", BagHall.OFFLOADED, refused.placeOf(0));
        Check.noState("sendOn(0, 0) at the departure", refused, () -> refused.sendOn(0, 0));
        refused.addFlight(1);
        refused.addFlight(1);
        Check.equal("sendOn(0, 1) a minute before the departure", BagHall.LATE, refused.sendOn(0, 1));
    }

    private static void promise14Bags() {
        BagHall hall = new BagHall();
        hall.addFlight(30);
        Check.equal("bags()", 0, hall.bags());
        for (int bag = 1; bag <= 48; bag++) {
            if (bag % 3 == 0) {
                hall.checkIn(0, 0);
            } else {
                hall.transfer(0, 0);
            }
            Check.equal("bags()", bag, hall.bags());
        }
        hall.load(0);
        hall.pass(40);
        Check.equal("bags() when they have left", 48, hall.bags());
    }

    private static void promise15PlaceOf() {
        BagHall hall = Halls.everyPlace();
        int[] found = new int[12];
        for (int bag = 0; bag < hall.bags(); bag++) {
            int place = hall.placeOf(bag);
            found[place]++;
            Check.equal("placeByScans of now", place, hall.placeByScans(bag, hall.time()));
        }
        for (int place = 1; place <= 11; place++) {
            Check.isTrue("a bag is at place " + place, found[place] > 0);
        }
        refuseBags("placeOf", hall, hall::placeOf);
    }

    private static void promise16PlaceByScans() {
        BagHall hall = new BagHall();
        hall.pass(5);
        hall.addFlight(50);
        hall.checkIn(0, 0);
        hall.pass(2);
        hall.decide(0, true);
        hall.transfer(0, 1);
        hall.load(0);
        hall.offload(0);
        hall.pass(3);
        Check.equal("before it came", BagHall.NONE, hall.placeByScans(0, 0));
        Check.equal("a minute before it came", BagHall.NONE, hall.placeByScans(0, 4));
        Check.equal("as it came", BagHall.SCREEN_1, hall.placeByScans(0, 5));
        Check.equal("between two scans", BagHall.SCREEN_1, hall.placeByScans(0, 6));
        Check.equal("behind all that happened at the time", BagHall.OFFLOADED, hall.placeByScans(0, 7));
        Check.equal("behind its last scan", BagHall.OFFLOADED, hall.placeByScans(0, 9));
        Check.equal("now", BagHall.OFFLOADED, hall.placeByScans(0, 10));
        Check.equal("the other bag before it came", BagHall.NONE, hall.placeByScans(1, 6));
        Check.equal("the other bag", BagHall.LATERAL, hall.placeByScans(1, 7));
        int[] outOfRange = {-1, 11, Integer.MIN_VALUE, Integer.MAX_VALUE};
        for (int time : outOfRange) {
            Check.noArgument("placeByScans(0, " + time + ")", hall, () -> hall.placeByScans(0, time));
            Check.noIndex("placeByScans(2, " + time + ")", hall, () -> hall.placeByScans(2, time));
            Check.noIndex("placeByScans(-1, " + time + ")", hall, () -> hall.placeByScans(-1, time));
        }
        refuseBags("placeByScans", hall, bag -> hall.placeByScans(bag, 0));
        hall.pass(45);
        Check.equal("a minute before the departure", BagHall.LATERAL, hall.placeByScans(1, 54));
        Check.equal("at the departure", BagHall.LATE, hall.placeByScans(1, 55));
    }

    private static void promise17FlightOf() {
        BagHall hall = new BagHall();
        for (int flight = 0; flight < 10; flight++) {
            hall.addFlight(100 + flight);
        }
        for (int bag = 0; bag < 20; bag++) {
            int flight = bag * 7 % 10;
            if (bag < 10) {
                hall.checkIn(flight, 0);
            } else {
                hall.transfer(flight, 0);
            }
            Check.equal("flightOf(" + bag + ")", flight, hall.flightOf(bag));
        }
        hall.pass(200);
        for (int bag = 0; bag < 20; bag++) {
            Check.equal("flightOf(" + bag + ") behind the departure", bag * 7 % 10, hall.flightOf(bag));
        }
        refuseBags("flightOf", hall, hall::flightOf);
    }

    interface BagCall {
        int run(int bag);
    }

    private static void refuseBags(String what, BagHall hall, BagCall call) {
        int[] noBags = {-1, hall.bags(), 48, Integer.MIN_VALUE, Integer.MAX_VALUE};
        for (int bag : noBags) {
            Check.noIndex(what + " of bag " + bag, hall, () -> call.run(bag));
        }
    }
}
