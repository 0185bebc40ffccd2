/** What the tests share: counted comparisons, and calls that must throw and change nothing. */
final class Check {
    private static int wrong = 0;

    interface Call {
        void run();
    }

    private Check() {
    }

    static void equal(String what, long want, long got) {
        if (want != got) {
            fail(what + " answered " + got + ", due is " + want);
        }
    }

    static void equal(String what, String want, String got) {
        if (!want.equals(got)) {
            fail(what + " answered\n" + got + "\ndue is\n" + want);
        }
    }

    static void isTrue(String what, boolean got) {
        equal(what, 1, got ? 1 : 0);
    }

    static void isFalse(String what, boolean got) {
        equal(what, 0, got ? 1 : 0);
    }

    static void fail(String message) {
        wrong++;
        System.out.println(message);
    }

    /** The exception is compared by its very class: an ArrayIndexOutOfBoundsException is no answer. */
    static void refuses(String what, BagHall hall, Class<? extends RuntimeException> due, Call call) {
        String before = stateOf(hall);
        String thrown = "nothing";
        try {
            call.run();
        } catch (RuntimeException e) {
            thrown = e.getClass().getSimpleName();
        }
        if (!thrown.equals(due.getSimpleName())) {
            fail(what + " throws " + thrown + ", due is " + due.getSimpleName());
        }
        equal(what + ": the state behind it", before, stateOf(hall));
    }

    static void noIndex(String what, BagHall hall, Call call) {
        refuses(what, hall, IndexOutOfBoundsException.class, call);
    }

    static void noArgument(String what, BagHall hall, Call call) {
        refuses(what, hall, IllegalArgumentException.class, call);
    }

    static void noState(String what, BagHall hall, Call call) {
        refuses(what, hall, IllegalStateException.class, call);
    }

    /** All that a caller can read. (The program counts no calls, so it may be read at any length.) */
    static String stateOf(BagHall hall) {
        StringBuilder text = new StringBuilder();
        text.append("time ").append(hall.time());
        for (int flight = 0; hasFlight(hall, flight); flight++) {
            text.append("\nflight ").append(flight).append(": ").append(hall.lateralOf(flight)).append(' ')
                    .append(hall.untilClose(flight)).append(' ').append(hall.unmatched(flight));
        }
        text.append("\nboarded");
        for (int rider = 0; rider < 40; rider++) {
            boolean had = hall.board(rider, false);
            hall.board(rider, had);
            text.append(had ? " 1" : " 0");
        }
        for (int bag = 0; bag < hall.bags(); bag++) {
            text.append("\nbag ").append(bag).append(": ").append(hall.flightOf(bag)).append(' ')
                    .append(hall.placeOf(bag)).append(" then");
            for (int time = Math.max(0, hall.time() - 20); time <= hall.time(); time++) {
                text.append(' ').append(hall.placeByScans(bag, time));
            }
        }
        text.append("\ncounts");
        for (int place = BagHall.SCREEN_1; place <= BagHall.LATE; place++) {
            text.append(' ').append(hall.count(place));
        }
        text.append("\nlaterals");
        for (int lateral = 0; lateral < 4; lateral++) {
            text.append(' ').append(hall.atLateral(lateral));
        }
        return text.append("\nscans").append(scansFrom(hall, 0)).toString();
    }

    /** The scans from a number on, as " bag@place", in their order. */
    static String scansFrom(BagHall hall, int first) {
        StringBuilder text = new StringBuilder();
        for (int scan = first; scan < hall.scans(); scan++) {
            text.append(' ').append(hall.bagOfScan(scan)).append('@').append(hall.placeOfScan(scan));
        }
        return text.toString();
    }

    private static boolean hasFlight(BagHall hall, int flight) {
        try {
            hall.lateralOf(flight);
            return true;
        } catch (IndexOutOfBoundsException e) {
            return false;
        }
    }

    /** Lets any number of minutes pass, and answers how many scans there were by that. */
    static int passLong(BagHall hall, int minutes) {
        int scans = 0;
        for (int left = minutes; left > 0; left -= 200) {
            scans += hall.pass(Math.min(left, 200));
        }
        return scans;
    }

    static void end(String test) {
        System.out.println(wrong == 0 ? test + ": all answers are as due" : test + ": " + wrong + " answers are not as due");
        if (wrong != 0) {
            System.exit(1);
        }
    }
}
