/**
 * How a day goes on in a hall, whatever has happened in it. All that a hall holds comes out in its
 * answers sooner or later, also what no call reads: who is on purpose, who came first, since when.
 */
final class Day {
    static final int MINUTES = 330;

    private Day() {
    }

    /** Lets the whole day pass, and answers all that was told in it, with the state at its end. */
    static String play(BagHall hall) {
        StringBuilder told = new StringBuilder();
        for (int minute = 0; minute < MINUTES; minute++) {
            act(hall, minute, told);
            told.append(" |").append(hall.pass(1));
        }
        return told.append('\n').append(Check.stateOf(hall)).toString();
    }

    /** Makes the calls of one minute, and tells their answers. */
    static void act(BagHall hall, int minute, StringBuilder told) {
        if (minute == 3) {
            tell(told, hall, "addFlight", 95, 0);
            tell(told, hall, "checkIn", 2, 33);
        }
        for (int rider = 1; minute == 5 && rider < 40; rider += 2) {
            tell(told, hall, "board", rider, 1);
        }
        for (int bag = 0; bag < hall.bags(); bag++) {
            move(hall, bag, minute, told);
        }
    }

    private static void move(BagHall hall, int bag, int minute, StringBuilder told) {
        switch (hall.placeOf(bag)) {
            case BagHall.SCREEN_1: case BagHall.SCREEN_2: case BagHall.SCREEN_3:
                tell(told, hall, "decide", bag, bag % 5 == 1 ? 1 : 0);
                break;
            case BagHall.HELD:
                tell(told, hall, "letGo", bag, 0);
                break;
            case BagHall.LATERAL:
                if (bag % 7 != 2) {
                    tell(told, hall, "load", bag, 0);
                }
                break;
            case BagHall.OFFLOADED: case BagHall.LATE:
                if (minute % 40 == 39 && bag % 3 != 0) {
                    tell(told, hall, "sendOn", bag, 2);
                }
                break;
            default:
                break;
        }
    }

    private static void tell(StringBuilder told, BagHall hall, String name, int a, int b) {
        String answer = Calls.answer(hall, name, a, b);
        told.append(' ').append(Calls.isRefused(answer) ? "-" : answer);
    }
}
