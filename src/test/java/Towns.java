/** Dispatchers for the tests to begin with, and ways to use their scripts and output. */
final class Towns {
    private Towns() {
    }

    /** Streets 0: 0-1 b, length 3; 1: 1-2 a, length 2; 2: 6-7 c, length 1, which no path joins to the others. */
    static SnowDispatcher small() {
        SnowDispatcher d = new SnowDispatcher();
        d.addStreet(1, 0, 'b', 3);
        d.addStreet(1, 2, 'a', 2);
        d.addStreet(6, 7, 'c', 1);
        return d;
    }

    static SnowDispatcher smallWithPlough() {
        SnowDispatcher d = small();
        d.addPlough(0);
        return d;
    }

    /** Twelve streets of length 1 and different classes. */
    static SnowDispatcher full() {
        SnowDispatcher d = new SnowDispatcher();
        int added = 0;
        for (int first = 0; first < 8 && added < 12; first++) {
            for (int second = first + 1; second < 8 && added < 12; second++) {
                d.addStreet(first, second, (char) ('a' + added % 3), 1);
                added++;
            }
        }
        return d;
    }

    /** Streets 0: 0-1, 1: 1-2 and so on with these depths, none of which is greater than the one before. */
    static SnowDispatcher snowy(char streetClass, int... depths) {
        SnowDispatcher d = new SnowDispatcher();
        for (int street = 0; street < depths.length; street++) {
            d.addStreet(street, street + 1, streetClass, 1);
            snow(d, depths[street] - (street + 1 < depths.length ? depths[street + 1] : 0));
        }
        return d;
    }

    /** Lets this much snow fall on each street, in an hour for every 9 centimetres; afterwards none falls. */
    static void snow(SnowDispatcher d, int centimetres) {
        for (int left = centimetres; left > 0; left -= 9) {
            d.setSnowfall(Math.min(left, 9));
            d.advance(60);
        }
        d.setSnowfall(0);
    }

    static void type(SnowDispatcher d, String text) {
        for (int i = 0; i < text.length(); i++) {
            d.type(text.charAt(i));
        }
    }

    static Object run(SnowDispatcher d, String script) {
        type(d, script);
        return Check.outcome(() -> d.runScript());
    }

    static String text(SnowDispatcher d, int length) {
        StringBuilder text = new StringBuilder();
        for (int i = 0; i < length; i++) {
            text.append(d.outputAt(i));
        }
        return text.toString();
    }

    static String streetText(SnowDispatcher d, int street) {
        return text(d, d.renderStreet(street));
    }

    static String queueText(SnowDispatcher d, int plough) {
        return text(d, d.renderQueue(plough));
    }

    static String depths(SnowDispatcher d) {
        StringBuilder text = new StringBuilder();
        for (int street = 0; street < d.streetCount(); street++) {
            text.append(street == 0 ? "" : " ").append(d.depth(street));
        }
        return text.toString();
    }
}
