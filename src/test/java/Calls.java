/** The calls of the face by their names, each with up to two arguments; a boolean counts 1 or 0. */
final class Calls {
    static final String[] CHANGES = {
        "addFlight", "board", "pass", "checkIn", "transfer", "decide", "letGo", "load", "offload", "sendOn"};
    static final String[] READS = {
        "time", "lateralOf", "bags", "placeOf", "placeByScans", "flightOf", "count", "atLateral",
        "unmatched", "untilClose", "scans", "bagOfScan", "placeOfScan"};

    private Calls() {
    }

    /** What a call answers: a number, or the name of the exception that it throws. */
    static String answer(BagHall hall, String name, int a, int b) {
        try {
            return "" + call(hall, name, a, b);
        } catch (RuntimeException e) {
            return e.getClass().getSimpleName();
        }
    }

    static boolean isRefused(String answer) {
        return answer.endsWith("Exception");
    }

    private static int call(BagHall hall, String name, int a, int b) {
        switch (name) {
            case "addFlight": return hall.addFlight(a);
            case "board": return hall.board(a, b != 0) ? 1 : 0;
            case "pass": return hall.pass(a);
            case "time": return hall.time();
            case "lateralOf": return hall.lateralOf(a);
            case "checkIn": return hall.checkIn(a, b);
            case "transfer": return hall.transfer(a, b);
            case "decide": return hall.decide(a, b != 0);
            case "letGo": return hall.letGo(a);
            case "load": return hall.load(a);
            case "offload": return hall.offload(a);
            case "sendOn": return hall.sendOn(a, b);
            case "bags": return hall.bags();
            case "placeOf": return hall.placeOf(a);
            case "placeByScans": return hall.placeByScans(a, b);
            case "flightOf": return hall.flightOf(a);
            case "count": return hall.count(a);
            case "atLateral": return hall.atLateral(a);
            case "unmatched": return hall.unmatched(a);
            case "untilClose": return hall.untilClose(a);
            case "scans": return hall.scans();
            case "bagOfScan": return hall.bagOfScan(a);
            case "placeOfScan": return hall.placeOfScan(a);
            default: throw new UnsupportedOperationException(name);
        }
    }
}
