/**
 * Compares BagHall with PlainHall over long runs of calls that are drawn from a fixed row of numbers,
 * so that every run of this test is the same. What a failing run prints can be called by hand.
 */
public final class ModelTest {
    private static final int CALLS = 512;

    /** How often each call of Calls.CHANGES is drawn, by the kind of the run. */
    private static final int[][] WEIGHTS = {
        {2, 4, 8, 10, 10, 16, 6, 12, 4, 8},
        {2, 2, 12, 2, 20, 4, 2, 10, 6, 20},
        {1, 6, 20, 12, 6, 30, 8, 6, 2, 4},
        {3, 3, 4, 3, 24, 4, 1, 14, 10, 10},
    };

    private static long seed;

    public static void main(String[] args) {
        for (int run = 0; run < 400; run++) {
            seed = 1000003L * run + 17;
            runOnce(run);
        }
        mostScans();
        longBehindTheLastCall();
        Check.end("ModelTest");
    }

    private static int draw(int bound) {
        seed = seed * 6364136223846793005L + 1442695040888963407L;
        return (int) ((seed >>> 33) % bound);
    }

    private static void runOnce(int run) {
        BagHall hall = new BagHall();
        PlainHall plain = new PlainHall();
        StringBuilder calls = new StringBuilder();
        for (int call = 0; call < CALLS; call++) {
            String name = drawName(run);
            int a = drawFirst(name, plain, run);
            int b = drawSecond(name, plain);
            calls.append(name).append('(').append(a).append(", ").append(b).append(") ");
            if (!same("run " + run + ": " + calls, hall, plain, name, a, b)) {
                return;
            }
        }
        compareWhole("run " + run + ": " + calls, hall, plain);
    }

    private static String drawName(int run) {
        if (draw(5) == 0) {
            return Calls.READS[draw(Calls.READS.length)];
        }
        int[] weights = WEIGHTS[run % WEIGHTS.length];
        int sum = 0;
        for (int weight : weights) {
            sum += weight;
        }
        int drawn = draw(sum);
        int name = 0;
        while (drawn >= weights[name]) {
            drawn -= weights[name];
            name++;
        }
        return Calls.CHANGES[name];
    }

    /** Mostly what there is; now and then a number at or beyond an edge. */
    private static int among(int count) {
        if (draw(40) == 0) {
            int[] edges = {-1, count, count + 1, Integer.MIN_VALUE, Integer.MAX_VALUE};
            return edges[draw(edges.length)];
        }
        return count == 0 ? 0 : draw(count);
    }

    private static int count(PlainHall plain, String name) {
        return Integer.parseInt(plain.call(name, 0, 0));
    }

    private static int drawFirst(String name, PlainHall plain, int run) {
        switch (name) {
            case "addFlight": return drawUntilDeparture();
            case "board": return among(40);
            case "pass": return drawMinutes(run);
            case "checkIn": case "transfer": case "lateralOf": case "unmatched": case "untilClose": return among(flights(plain));
            case "count": return among(12);
            case "atLateral": return among(4);
            case "bagOfScan": case "placeOfScan": return among(count(plain, "scans"));
            case "letGo": return drawBagAt(plain, 4, 4);
            case "decide": return drawBagAt(plain, 1, 3);
            case "load": return drawBagAt(plain, 7, 7);
            case "offload": return drawBagAt(plain, 8, 8);
            case "sendOn": return drawBagAt(plain, 10, 11);
            default: return among(count(plain, "bags"));
        }
    }

    private static int drawSecond(String name, PlainHall plain) {
        switch (name) {
            case "board": case "decide": return draw(2);
            case "checkIn": case "transfer": return among(40);
            case "sendOn": return among(flights(plain));
            case "placeByScans": return among(plain.time() + 1);
            default: return 0;
        }
    }

    private static int drawUntilDeparture() {
        int[] edges = {1, 9, 10, 11, 59, 60, 61, 62, 120, 1000, 0, 1001, -5};
        return draw(4) == 0 ? edges[draw(edges.length)] : 1 + draw(200);
    }

    private static int drawMinutes(int run) {
        int[] edges = {1, 2, 10, 200, 201, 0, -1};
        return draw(10) == 0 ? edges[draw(edges.length)] : 1 + draw(run % 3 == 0 ? 4 : 12);
    }

    private static int flights(PlainHall plain) {
        int flights = 0;
        while (!plain.call("lateralOf", flights, 0).equals(PlainHall.INDEX)) {
            flights++;
        }
        return flights;
    }

    /** A bag at one of the places, if a few tries find one: else calls would be refused all too often. */
    private static int drawBagAt(PlainHall plain, int from, int to) {
        int bag = 0;
        for (int tries = 0; tries < 20; tries++) {
            bag = among(count(plain, "bags"));
            String place = plain.call("placeOf", bag, 0);
            if (!place.equals(PlainHall.INDEX) && Integer.parseInt(place) >= from && Integer.parseInt(place) <= to) {
                return bag;
            }
        }
        return bag;
    }

    private static boolean same(String what, BagHall hall, PlainHall plain, String name, int a, int b) {
        String due = plain.call(name, a, b);
        String got = Calls.answer(hall, name, a, b);
        if (!due.equals(got)) {
            Check.fail(what + name + "(" + a + ", " + b + ") answered " + got + ", due is " + due);
            return false;
        }
        return true;
    }

    private static void compareWhole(String what, BagHall hall, PlainHall plain) {
        same(what, hall, plain, "time", 0, 0);
        same(what, hall, plain, "bags", 0, 0);
        same(what, hall, plain, "scans", 0, 0);
        for (int flight = 0; flight <= 10; flight++) {
            same(what, hall, plain, "lateralOf", flight, 0);
            same(what, hall, plain, "untilClose", flight, 0);
            same(what, hall, plain, "unmatched", flight, 0);
        }
        for (int bag = 0; bag <= 48; bag++) {
            same(what, hall, plain, "placeOf", bag, 0);
            same(what, hall, plain, "flightOf", bag, 0);
            for (int time = 0; time <= plain.time(); time += 5) {
                same(what, hall, plain, "placeByScans", bag, time);
            }
        }
        for (int place = 0; place <= 12; place++) {
            same(what, hall, plain, "count", place, 0);
        }
        for (int lateral = -1; lateral <= 4; lateral++) {
            same(what, hall, plain, "atLateral", lateral, 0);
        }
        for (int scan = -1; scan <= hall.scans(); scan++) {
            same(what, hall, plain, "bagOfScan", scan, 0);
            same(what, hall, plain, "placeOfScan", scan, 0);
        }
    }

    /** As many scans as 512 calls can bring: bags go by the loop, the store and the lateral to LATE, again and again. */
    private static void mostScans() {
        BagHall hall = new BagHall();
        PlainHall plain = new PlainHall();
        int calls = 0;
        for (int flight = 0; calls < CALLS; flight++) {
            same("mostScans: ", hall, plain, "addFlight", 62, 0);
            calls++;
            for (int bag = 0; bag < 48 && calls < CALLS - 1; bag++) {
                if (flight == 0) {
                    same("mostScans: ", hall, plain, "transfer", flight, bag % 40);
                } else {
                    same("mostScans: ", hall, plain, "sendOn", bag, flight);
                }
                calls++;
            }
            same("mostScans: ", hall, plain, "pass", 62, 0);
            calls++;
        }
        Check.isTrue("mostScans: more than two scans a call", hall.scans() > 2 * CALLS);
        compareWhole("mostScans: ", hall, plain);
    }

    /** Behind the 512th call answers are free, but the machine itself throws nothing, though all rows are full. */
    private static void longBehindTheLastCall() {
        BagHall hall = new BagHall();
        hall.addFlight(100);
        hall.addFlight(300);
        for (int bag = 0; bag < 47; bag++) {
            hall.transfer(1, bag % 40);
        }
        hall.pass(45);
        hall.transfer(0, 0);
        for (int round = 0; round < 2000; round++) {
            namedOnly(hall, "load", 47, 0);
            namedOnly(hall, "offload", 47, 0);
            namedOnly(hall, "sendOn", 47, 0);
        }
        for (int minute = 0; minute < 300; minute++) {
            namedOnly(hall, "pass", 1, 0);
            for (String read : Calls.READS) {
                namedOnly(hall, read, minute * 9, minute);
            }
            for (int bag = 0; bag < 48; bag++) {
                namedOnly(hall, Calls.CHANGES[3 + (minute + bag) % 7], bag, bag % 3);
            }
        }
        Check.isTrue("the scans of 512 calls stay", hall.scans() >= 2 * CALLS);
        Check.stateOf(hall);
    }

    private static void namedOnly(BagHall hall, String name, int a, int b) {
        String got = Calls.answer(hall, name, a, b);
        boolean isNamed = got.equals(PlainHall.INDEX) || got.equals(PlainHall.ARGUMENT) || got.equals(PlainHall.STATE);
        if (got.endsWith("Exception") && !isNamed) {
            Check.fail("behind the 512th call " + name + "(" + a + ", " + b + ") answered " + got);
        }
    }
}
