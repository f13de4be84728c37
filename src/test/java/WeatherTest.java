/** Promises 6 to 10: salt, the store, snowfall, wind, and the end of an hour. */
public final class WeatherTest {
    private static final Class<IndexOutOfBoundsException> INDEX = IndexOutOfBoundsException.class;
    private static final Class<IllegalArgumentException> ARGUMENT = IllegalArgumentException.class;
    private static final Class<IllegalStateException> STATE = IllegalStateException.class;
    private static final Class<UnsupportedOperationException> UNSUPPORTED = UnsupportedOperationException.class;

    public static void main(String[] args) {
        promise6();
        promise7();
        promises8And9();
        promise10();
        deepest();
        melting();
        drifting();
        driftAtTheTop();
        orderOfTheHour();
        clearedInTheHour();
        Check.end();
    }

    private static void promise6() {
        SnowDispatcher d = Towns.small();
        Check.refuses("6 empty store", STATE, () -> d.salt(2));
        d.loadSalt(4);
        Check.is("6 left", 1, d.salt(0));
        Check.refuses("6 salted, and too few units", UNSUPPORTED, () -> d.salt(0));
        Check.refuses("6 too few units", STATE, () -> d.salt(1));
        Check.is("35 unchanged", 1, d.saltStore());
        Check.is("6 just enough", 0, d.salt(2));
        for (int bad : new int[] {-1, 3, 12, Integer.MIN_VALUE, Integer.MAX_VALUE}) {
            Check.refuses("6 street " + bad, INDEX, () -> d.salt(bad));
        }
        d.loadSalt(200);
        d.advance(239);
        Check.refuses("6 last minute", UNSUPPORTED, () -> d.salt(0));
        d.advance(1);
        Check.is("6 again", 197, d.salt(0));
        Check.is("19 again", 240, d.saltMinutes(0));
    }

    private static void promise7() {
        SnowDispatcher d = new SnowDispatcher();
        for (int bad : new int[] {0, 201, -1, Integer.MIN_VALUE, Integer.MAX_VALUE}) {
            Check.refuses("7 units " + bad, ARGUMENT, () -> d.loadSalt(bad));
        }
        Check.is("7 first", 200, d.loadSalt(200));
        Check.is("7 second", 201, d.loadSalt(1));
        Check.is("7 third", 401, d.loadSalt(200));
        Check.refuses("7 too many", UNSUPPORTED, () -> d.loadSalt(100));
        Check.refuses("7 wrong and too many", ARGUMENT, () -> d.loadSalt(201));
        Check.is("35 unchanged", 401, d.saltStore());
        Check.is("7 just full", 500, d.loadSalt(99));
        Check.refuses("7 full", UNSUPPORTED, () -> d.loadSalt(1));
        Check.is("35 full", 500, d.saltStore());
    }

    private static void promises8And9() {
        SnowDispatcher d = new SnowDispatcher();
        Check.is("8 previous", 0, d.setSnowfall(9));
        Check.is("8 previous 9", 9, d.setSnowfall(4));
        Check.is("36", 4, d.snowfall());
        Check.is("9 previous", 0, d.setWind(9));
        Check.is("9 previous 9", 9, d.setWind(3));
        Check.is("37", 3, d.wind());
        for (int bad : new int[] {-1, 10, Integer.MIN_VALUE, Integer.MAX_VALUE}) {
            Check.refuses("8 rate " + bad, ARGUMENT, () -> d.setSnowfall(bad));
            Check.refuses("9 force " + bad, ARGUMENT, () -> d.setWind(bad));
        }
        Check.is("36 unchanged", 4, d.snowfall());
        Check.is("37 unchanged", 3, d.wind());
    }

    private static void promise10() {
        SnowDispatcher d = Towns.smallWithPlough();
        for (int bad : new int[] {0, 601, -1, Integer.MIN_VALUE, Integer.MAX_VALUE}) {
            Check.refuses("10 minutes " + bad, ARGUMENT, () -> d.advance(bad));
        }
        Check.is("34 unchanged", 0, d.time());
        Check.is("10 nothing cleared", 0, d.advance(600));
        Check.is("10 a minute", 0, d.advance(1));
        Check.is("34", 601, d.time());
        for (int i = 0; i < 5; i++) {
            d.order(0, 0);
        }
        Check.is("10 five clearings", 5, d.advance(60));
        d.order(0, 0);
        Check.is("10 none of the earlier ones", 0, d.advance(11));
        Check.is("10 one more", 1, d.advance(1));
        Check.is("38", 6, d.clearedTotal());
    }

    private static void deepest() {
        SnowDispatcher d = Towns.small();
        d.setSnowfall(9);
        d.advance(600);
        d.advance(600);
        Check.is("16 180", "180 180 180", Towns.depths(d));
        d.advance(120);
        Check.is("16 198", 198, d.depth(0));
        d.advance(60);
        Check.is("16 200", "200 200 200", Towns.depths(d));
        d.advance(600);
        Check.is("16 still 200", "200 200 200", Towns.depths(d));
    }

    private static void melting() {
        SnowDispatcher d = Towns.small();
        d.loadSalt(100);
        d.setSnowfall(4);
        d.advance(60);
        d.setSnowfall(0);
        d.salt(0);
        d.advance(60);
        Check.is("16 melted by 3", "1 4 4", Towns.depths(d));
        d.advance(60);
        Check.is("16 not below 0", "0 4 4", Towns.depths(d));
        d.setSnowfall(5);
        d.advance(60);
        Check.is("16 snow first", "2 9 9", Towns.depths(d));
        d.advance(60);
        // The fourth hour ends when 240 minutes have passed: the street is no longer salted.
        Check.is("16 salt is over at the end of the hour", "7 14 14", Towns.depths(d));
    }

    private static void drifting() {
        SnowDispatcher d = new SnowDispatcher();
        d.addStreet(0, 1, 'c', 1);
        d.setWind(9);
        d.setSnowfall(8);
        d.advance(60);
        Check.is("9 one street keeps its snow", "8", Towns.depths(d));
        d.addStreet(1, 2, 'c', 1);
        d.addStreet(2, 3, 'c', 1);
        d.setSnowfall(0);
        d.advance(60);
        Check.is("9 a quarter", "6 2 0", Towns.depths(d));
        d.advance(60);
        // A quarter of 6 is 1, a quarter of 2 is 0.
        Check.is("9 a quarter rounded down", "5 3 0", Towns.depths(d));
        d.setWind(0);
        d.setSnowfall(9);
        d.advance(300);
        Check.is("9 no wind", "50 48 45", Towns.depths(d));
        d.setWind(2);
        d.setSnowfall(0);
        d.addStreet(3, 4, 'c', 1);
        d.advance(60);
        Check.is("9 the force", "48 48 45 2", Towns.depths(d));
        d.advance(60);
        Check.is("9 all at once", "46 48 45 4", Towns.depths(d));
        d.advance(60);
        Check.is("9 from the last to the first", "45 48 45 5", Towns.depths(d));
    }

    private static void driftAtTheTop() {
        SnowDispatcher d = Towns.small();
        d.setSnowfall(9);
        for (int i = 0; i < 3; i++) {
            d.advance(600);
        }
        d.loadSalt(100);
        d.setWind(5);
        d.salt(2);
        d.advance(60);
        Check.is("9 as much as it loses", "200 200 197", Towns.depths(d));
        d.addPlough(6);
        d.order(0, 2);
        d.advance(59);
        d.setSnowfall(0);
        d.advance(1);
        Check.is("9 the cleared one gives nothing", "195 200 5", Towns.depths(d));
        d.setSnowfall(9);
        d.advance(60);
        // 200 200 11 before the drift: street 2 gives a quarter of 11
        Check.is("9 a little from the last", "197 200 14", Towns.depths(d));
    }

    private static void orderOfTheHour() {
        SnowDispatcher d = new SnowDispatcher();
        d.addStreet(0, 1, 'a', 1);
        d.addStreet(1, 2, 'a', 1);
        d.loadSalt(10);
        d.setSnowfall(5);
        d.setWind(1);
        d.salt(1);
        d.advance(60);
        // 5 5, melted 5 2, drifted 4 3
        Check.is("10 snow, salt, wind", "4 3", Towns.depths(d));
        Check.is("41 none yet", 0, d.complaintTotal());
        d.advance(60);
        // 9 8, melted 9 5, drifted 9 5
        Check.is("10 second hour", "9 5", Towns.depths(d));
        Check.is("41 one after the drift", 1, d.complaintTotal());
        Check.is("20 about street 0", 1, d.complaints(0));
        d.advance(60);
        // 14 10, melted 14 7, drifted 14 7
        Check.is("10 third hour", "14 7", Towns.depths(d));
        Check.is("20 about street 0 again", 2, d.complaints(0));
        Check.is("20 about street 1", 1, d.complaints(1));
        Check.is("41 three", 3, d.complaintTotal());
    }

    private static void clearedInTheHour() {
        SnowDispatcher d = Towns.smallWithPlough();
        d.setSnowfall(9);
        d.advance(60);
        d.advance(46);
        d.order(0, 1);
        Check.is("10 cleared in the last minute of the hour", 1, d.advance(14));
        Check.is("39 before the snow of that minute", 9, d.ploughedTotal());
        Check.is("10 ploughs before the hour ends", "18 9 18", Towns.depths(d));
    }
}
