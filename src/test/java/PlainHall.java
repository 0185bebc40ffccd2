import java.util.ArrayList;
import java.util.Comparator;
import java.util.List;

/**
 * The document once more, written another way: a bag is nothing but its scans, and every answer is
 * found from them. Refusals are answered as texts, so that a call of both can be compared.
 */
final class PlainHall {
    private record Flight(int departure, int lateral) {
    }

    private record Scan(int number, Bag bag, int place, int time) {
    }

    private static final class Bag {
        final int number;
        final int rider;
        int flight;
        boolean onPurpose;

        Bag(int number, int rider, int flight) {
            this.number = number;
            this.rider = rider;
            this.flight = flight;
        }
    }

    static final String INDEX = "IndexOutOfBoundsException";
    static final String ARGUMENT = "IllegalArgumentException";
    static final String STATE = "IllegalStateException";

    private final List<Flight> flights = new ArrayList<>();
    private final List<Bag> bags = new ArrayList<>();
    private final List<Scan> scans = new ArrayList<>();
    private final List<Integer> boarded = new ArrayList<>();
    private int time = 0;

    /** The answer of a call by its name, with up to two arguments. */
    String call(String name, int a, int b) {
        switch (name) {
            case "addFlight": return addFlight(a);
            case "board": return board(a, b != 0);
            case "pass": return pass(a);
            case "time": return "" + time;
            case "lateralOf": return noFlight(a) ? INDEX : "" + flights.get(a).lateral;
            case "checkIn": return takeIn(a, b, false);
            case "transfer": return takeIn(a, b, true);
            case "decide": return decide(a, b != 0);
            case "letGo": return noBag(a) ? INDEX : !at(a, 4) ? STATE : routed(a);
            case "load": return noBag(a) ? INDEX : !at(a, 7) ? STATE : moved(a, 8);
            case "offload": return noBag(a) ? INDEX : !at(a, 8) ? STATE : moved(a, 10);
            case "sendOn": return sendOn(a, b);
            case "bags": return "" + bags.size();
            case "placeOf": return noBag(a) ? INDEX : "" + place(bags.get(a));
            case "placeByScans": return placeByScans(a, b);
            case "flightOf": return noBag(a) ? INDEX : "" + bags.get(a).flight;
            case "count": return a < 1 || a > 11 ? ARGUMENT : "" + bags.stream().filter(x -> place(x) == a).count();
            case "atLateral": return atLateral(a);
            case "unmatched": return unmatched(a);
            case "untilClose": return untilClose(a);
            case "scans": return "" + scans.size();
            case "bagOfScan": return noScan(a) ? INDEX : "" + scans.get(a).bag.number;
            case "placeOfScan": return noScan(a) ? INDEX : "" + scans.get(a).place;
            default: throw new IllegalArgumentException(name);
        }
    }

    int time() {
        return time;
    }

    private boolean noFlight(int flight) {
        return flight < 0 || flight >= flights.size();
    }

    private boolean noBag(int bag) {
        return bag < 0 || bag >= bags.size();
    }

    private boolean noScan(int scan) {
        return scan < 0 || scan >= scans.size();
    }

    private Scan last(Bag bag) {
        return scans.stream().filter(scan -> scan.bag == bag).reduce((x, y) -> y).orElse(null);
    }

    private int place(Bag bag) {
        Scan scan = last(bag);
        return scan == null ? 0 : scan.place;
    }

    private boolean at(int bag, int place) {
        return place(bags.get(bag)) == place;
    }

    private void move(Bag bag, int place) {
        scans.add(new Scan(scans.size(), bag, place, time));
    }

    private int left(Bag bag) {
        return flights.get(bag.flight).departure - time;
    }

    private void route(Bag bag) {
        if (left(bag) <= 10 || flights.get(bag.flight).lateral == -1) {
            move(bag, 11);
        } else if (left(bag) <= 60) {
            move(bag, 7);
        } else if (bags.stream().filter(x -> place(x) == 5).count() < 8) {
            move(bag, 5);
        } else if (place(bag) != 6) {
            move(bag, 6);
        }
    }

    private String routed(int bag) {
        route(bags.get(bag));
        return "" + place(bags.get(bag));
    }

    private String moved(int bag, int place) {
        move(bags.get(bag), place);
        return "" + loaded(bags.get(bag).flight).size();
    }

    private List<Bag> loaded(int flight) {
        return bags.stream().filter(bag -> bag.flight == flight && place(bag) == 8).toList();
    }

    private boolean mayFly(Bag bag) {
        return bag.onPurpose || boarded.contains(bag.rider);
    }

    private String addFlight(int minutes) {
        if (minutes < 1 || minutes > 1000) {
            return ARGUMENT;
        }
        if (flights.size() == 10) {
            return STATE;
        }
        int lateral = 0;
        while (lateral < 4 && isTaken(lateral, time + minutes)) {
            lateral++;
        }
        flights.add(new Flight(time + minutes, lateral == 4 ? -1 : lateral));
        return "" + (flights.size() - 1);
    }

    private boolean isTaken(int lateral, int departure) {
        return flights.stream().anyMatch(x -> x.lateral == lateral && x.departure > departure - 60 && x.departure < departure + 60);
    }

    private String board(int rider, boolean hasBoarded) {
        if (rider < 0 || rider > 39) {
            return INDEX;
        }
        boolean had = boarded.remove((Integer) rider);
        if (hasBoarded) {
            boarded.add(rider);
        }
        return had ? "1" : "0";
    }

    private String pass(int minutes) {
        if (minutes < 1 || minutes > 200) {
            return ARGUMENT;
        }
        int before = scans.size();
        for (int minute = 0; minute < minutes; minute++) {
            passMinute();
        }
        return "" + (scans.size() - before);
    }

    private void passMinute() {
        time++;
        bags.stream().filter(bag -> place(bag) == 5 && left(bag) <= 60)
                .sorted(Comparator.comparingInt(bag -> last(bag).number)).limit(3).toList()
                .forEach(bag -> move(bag, 7));
        bags.stream().filter(bag -> place(bag) == 6).toList().forEach(this::route);
        for (int flight = 0; flight < flights.size(); flight++) {
            for (Bag bag : bags) {
                if (flights.get(flight).departure == time && bag.flight == flight) {
                    depart(bag);
                }
            }
        }
    }

    private void depart(Bag bag) {
        switch (place(bag)) {
            case 8: move(bag, mayFly(bag) ? 9 : 10); break;
            case 5: case 6: case 7: move(bag, 11); break;
            default: break;
        }
    }

    private String takeIn(int flight, int rider, boolean isScreened) {
        if (noFlight(flight) || rider < 0 || rider > 39) {
            return INDEX;
        }
        if (bags.size() == 48 || flights.get(flight).departure <= time) {
            return STATE;
        }
        Bag bag = new Bag(bags.size(), rider, flight);
        bags.add(bag);
        if (isScreened) {
            route(bag);
        } else {
            move(bag, 1);
        }
        return "" + bag.number;
    }

    private String decide(int number, boolean isClear) {
        if (noBag(number)) {
            return INDEX;
        }
        Bag bag = bags.get(number);
        int level = place(bag);
        int[] needed = {0, 2, 4, 10};
        if (level > 3 || time - last(bag).time < needed[level]) {
            return STATE;
        }
        if (isClear) {
            return routed(number);
        }
        move(bag, level + 1);
        return "" + (level + 1);
    }

    private String sendOn(int number, int flight) {
        if (noBag(number) || noFlight(flight)) {
            return INDEX;
        }
        Bag bag = bags.get(number);
        if (place(bag) < 10 || flights.get(flight).departure <= time) {
            return STATE;
        }
        bag.flight = flight;
        bag.onPurpose = true;
        return routed(number);
    }

    private String placeByScans(int bag, int then) {
        if (noBag(bag)) {
            return INDEX;
        }
        if (then < 0 || then > time) {
            return ARGUMENT;
        }
        int place = -1;
        for (Scan scan : scans) {
            if (scan.bag.number == bag && scan.time <= then) {
                place = scan.place;
            }
        }
        return "" + place;
    }

    private String atLateral(int lateral) {
        if (lateral < 0 || lateral > 3) {
            return INDEX;
        }
        return "" + bags.stream().filter(bag -> place(bag) == 7 && flights.get(bag.flight).lateral == lateral).count();
    }

    private String unmatched(int flight) {
        if (noFlight(flight)) {
            return INDEX;
        }
        return "" + loaded(flight).stream().filter(bag -> !mayFly(bag)).count();
    }

    private String untilClose(int flight) {
        if (noFlight(flight)) {
            return INDEX;
        }
        int left = flights.get(flight).departure - 10 - time;
        return left < 0 ? "0" : "" + left;
    }
}
