/** A hall in which a bag is about to be routed, by one of the calls that route. */
final class Route {
    enum Way {
        TRANSFER(0), DECIDE_1(2), DECIDE_2(6), DECIDE_3(16), LET_GO(16), SEND_ON_LATE(0), SEND_ON_OFFLOADED(0);

        /** The minutes that a bag takes from its check-in to the place out of which it is routed. */
        final int wait;

        Way(int wait) {
            this.wait = wait;
        }

        /** Only a bag that is in the hall already can be routed to a flight that has departed. */
        boolean reachesDeparted() {
            return wait > 0;
        }

        private boolean sendsOn() {
            return this == SEND_ON_LATE || this == SEND_ON_OFFLOADED;
        }
    }

    private static final int RIDER = 5;

    final BagHall hall = new BagHall();
    private final Way way;
    private final int flight;

    /**
     * @param minutesLeft the minutes to the departure of the bag's flight at the moment of go()
     * @param waiting     how many bags of another flight, which has not opened yet, wait for it then
     */
    Route(Way way, int minutesLeft, boolean hasLateral, int waiting) {
        this.way = way;
        int first = way.sendsOn() ? hall.addFlight(way == Way.SEND_ON_LATE ? 5 : 30) : BagHall.NONE;
        for (int taken = 0; taken < 4 && !hasLateral; taken++) {
            hall.addFlight(minutesLeft + way.wait);
        }
        flight = hall.addFlight(minutesLeft + way.wait);
        prepare(first);
        int far = hall.addFlight(900);
        for (int bag = 0; bag < waiting; bag++) {
            hall.transfer(far, RIDER);
        }
    }

    private void prepare(int first) {
        if (way.sendsOn()) {
            hall.transfer(first, RIDER);
            if (way == Way.SEND_ON_OFFLOADED) {
                hall.load(0);
                hall.offload(0);
            }
        } else if (way != Way.TRANSFER) {
            hall.checkIn(flight, RIDER);
            passTheLevelsBelow();
        }
    }

    private void passTheLevelsBelow() {
        if (way == Way.LET_GO) {
            Halls.hold(hall, 0);
            return;
        }
        hall.pass(2);
        if (way != Way.DECIDE_1) {
            hall.decide(0, false);
            hall.pass(4);
        }
        if (way == Way.DECIDE_3) {
            hall.decide(0, false);
            hall.pass(10);
        }
    }

    /** Makes the call, and answers the place to which it brings the bag. */
    int go() {
        switch (way) {
            case TRANSFER: return hall.placeOf(hall.transfer(flight, RIDER));
            case LET_GO: return hall.letGo(0);
            case SEND_ON_LATE: case SEND_ON_OFFLOADED: return hall.sendOn(0, flight);
            default: return hall.decide(0, true);
        }
    }
}
