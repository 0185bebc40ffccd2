import java.util.ArrayList;
import java.util.List;

/**
 * "A call that throws an exception changes nothing": nothing of what is read at once, and nothing of
 * what shows only later. Of two halls alike one refuses a call; then the same day goes on in both.
 * So with the calls that only read.
 */
public final class RefusedTest {
    private static final int MIN = Integer.MIN_VALUE;
    private static final int MAX = Integer.MAX_VALUE;

    private enum Kind { EMPTY, FLIGHTS, EVERY_PLACE, ALL_FLIGHTS_AND_BAGS, AFTER_A_WHILE }

    public static void main(String[] args) {
        for (Kind kind : Kind.values()) {
            refusesIn(kind);
        }
        Check.end("RefusedTest");
    }

    private static BagHall hall(Kind kind) {
        switch (kind) {
            case EMPTY: return new BagHall();
            case FLIGHTS: return Halls.withFlights(30, 70, 200);
            case EVERY_PLACE: return Halls.everyPlace();
            case ALL_FLIGHTS_AND_BAGS: return allFlightsAndBags();
            default: return afterAWhile();
        }
    }

    private static BagHall allFlightsAndBags() {
        BagHall hall = Halls.everyPlace();
        Halls.addFlights(hall, 3, 40, 70, 90, 110, 130, 150);
        // Riders 2 and 18 never board: their bags are FLOWN only if they stay on purpose.
        hall.sendOn(2, 1);
        hall.load(2);
        hall.sendOn(hall.transfer(3, 18), 1);
        for (int bag = hall.bags(); bag < 48; bag++) {
            hall.transfer(4 + bag % 6, bag % 40);
        }
        hall.load(42);
        hall.pass(3);
        return hall;
    }

    private static BagHall afterAWhile() {
        BagHall hall = allFlightsAndBags();
        for (int minute = 0; minute < 75; minute++) {
            Day.act(hall, minute, new StringBuilder());
            hall.pass(1);
        }
        return hall;
    }

    private static void refusesIn(Kind kind) {
        String due = Day.play(hall(kind));
        int refused = 0;
        for (String name : Calls.CHANGES) {
            for (int[] values : arguments(name, hall(kind))) {
                BagHall hall = hall(kind);
                String answer = Calls.answer(hall, name, values[0], values[1]);
                if (Calls.isRefused(answer)) {
                    refused++;
                    String what = kind + ": the day behind " + name + "(" + values[0] + ", " + values[1] + "), " + answer;
                    compare(what, due, Day.play(hall));
                }
            }
        }
        Check.isTrue(kind + ": calls are refused", refused > 40);
        readsIn(kind, due);
    }

    /** All calls that only read, those that are refused among them, one behind the other. */
    private static void readsIn(Kind kind, String due) {
        BagHall hall = hall(kind);
        for (String name : Calls.READS) {
            for (int a : new int[] {MIN, -1, 0, 1, 2, 3, 4, 5, 11, 12, 17, 47, 48, 2048, MAX}) {
                for (int b : new int[] {MIN, -1, 0, hall.time(), hall.time() + 1, MAX}) {
                    Calls.answer(hall, name, a, b);
                }
            }
        }
        compare(kind + ": the day behind all that reads", due, Day.play(hall));
    }

    private static void compare(String what, String due, String got) {
        if (!due.equals(got)) {
            Check.fail(what + ", is another one");
        }
    }

    /** What a call is tried with: all there is, and what is just beyond it, and far. */
    private static List<int[]> arguments(String name, BagHall hall) {
        switch (name) {
            case "addFlight": return pairs(new int[] {MIN, -1, 0, 1, 1000, 1001, MAX}, 0);
            case "pass": return pairs(new int[] {MIN, -1, 0, 201, MAX}, 0);
            case "board": return pairs(new int[] {MIN, -1, 40, MAX}, 0, 1);
            case "checkIn": case "transfer": return pairs(upTo(flights(hall)), -1, 0, 12, 39, 40);
            case "decide": return pairs(upTo(hall.bags()), 0, 1);
            case "sendOn": return pairs(upTo(hall.bags()), upTo(flights(hall)));
            default: return pairs(upTo(hall.bags()), 0);
        }
    }

    private static int flights(BagHall hall) {
        int flights = 0;
        while (!Calls.isRefused(Calls.answer(hall, "lateralOf", flights, 0))) {
            flights++;
        }
        return flights;
    }

    private static int[] upTo(int count) {
        int[] numbers = new int[count + 4];
        for (int i = 0; i <= count; i++) {
            numbers[i] = i;
        }
        numbers[count + 1] = -1;
        numbers[count + 2] = MIN;
        numbers[count + 3] = MAX;
        return numbers;
    }

    private static List<int[]> pairs(int[] first, int... second) {
        List<int[]> pairs = new ArrayList<>();
        for (int a : first) {
            for (int b : second) {
                pairs.add(new int[] {a, b});
            }
        }
        return pairs;
    }
}
