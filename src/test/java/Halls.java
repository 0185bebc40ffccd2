/** Halls that several tests begin with. */
final class Halls {
    /** The bag of everyPlace() that is FLOWN, with the first of its flights. */
    static final int FLOWN_BAG = 0;

    private Halls() {
    }

    static BagHall withFlights(int... minutes) {
        BagHall hall = new BagHall();
        addFlights(hall, minutes);
        return hall;
    }

    static void addFlights(BagHall hall, int... minutes) {
        for (int flight : minutes) {
            hall.addFlight(flight);
        }
    }

    /** Takes bags in by transfer, of the riders 0, 1, 2 and so on. */
    static void transfer(BagHall hall, int flight, int bags) {
        for (int bag = 0; bag < bags; bag++) {
            hall.transfer(flight, bag % 40);
        }
    }

    /** Brings a bag that was checked in just now to HELD, in 16 minutes. */
    static void hold(BagHall hall, int bag) {
        hall.pass(2);
        hall.decide(bag, false);
        hall.pass(4);
        hall.decide(bag, false);
        hall.pass(10);
        hall.decide(bag, false);
    }

    /** A hall with a bag at each place, at the time 22: flight 0 has departed, 1 is open, 2 is not yet. */
    static BagHall everyPlace() {
        BagHall hall = withFlights(17, 70, 300);
        hall.board(0, true);
        transfer(hall, 0, 3);
        hall.load(0);
        hall.load(1);
        hold(hall, hall.checkIn(1, 3));
        hall.checkIn(1, 4);
        hall.checkIn(1, 5);
        hall.pass(2);
        hall.decide(4, false);
        hall.decide(5, false);
        hall.checkIn(1, 6);
        hall.transfer(1, 7);
        hall.transfer(1, 8);
        hall.load(7);
        for (int bag = 0; bag < 10; bag++) {
            hall.transfer(2, 9);
        }
        hall.pass(4);
        hall.decide(5, false);
        return hall;
    }
}
