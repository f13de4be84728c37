import java.util.NoSuchElementException;

/** Promises 1, 2 and 11 to 23: a new object, adding streets, and what is asked about streets. */
public final class StreetsTest {
    private static final Class<IndexOutOfBoundsException> INDEX = IndexOutOfBoundsException.class;
    private static final Class<IllegalArgumentException> ARGUMENT = IllegalArgumentException.class;
    private static final Class<IllegalStateException> STATE = IllegalStateException.class;
    private static final Class<NoSuchElementException> ELEMENT = NoSuchElementException.class;
    private static final int[] OUTSIDE = {-1, 3, 11, 12, 100, Integer.MIN_VALUE, Integer.MAX_VALUE};

    public static void main(String[] args) {
        promise1();
        promise2();
        promise2Order();
        promises11To15();
        promise16();
        promise17();
        promises18And19();
        promise20();
        promises21And22();
        promise23();
        noSuchStreet();
        Check.end();
    }

    private static void promise1() {
        SnowDispatcher d = new SnowDispatcher();
        Check.is("1 streets", 0, d.streetCount());
        Check.is("1 ploughs", 0, d.ploughCount());
        Check.is("1 time", 0, d.time());
        Check.is("1 store", 0, d.saltStore());
        Check.is("1 snowfall", 0, d.snowfall());
        Check.is("1 wind", 0, d.wind());
        Check.is("1 cleared", 0, d.clearedTotal());
        Check.is("1 ploughed", 0, d.ploughedTotal());
        Check.is("1 failed", 0, d.failedOrders());
        Check.is("1 complaints", 0, d.complaintTotal());
        Check.is("1 consistent", true, d.isConsistent());
        Check.is("1 advance", 0, d.advance(600));
        Check.is("1 time later", 600, d.time());
    }

    private static void promise2() {
        SnowDispatcher d = new SnowDispatcher();
        Check.is("2 first", 0, d.addStreet(7, 0, 'a', 9));
        Check.is("2 second", 1, d.addStreet(0, 1, 'c', 1));
        Check.is("2 depth", 0, d.depth(1));
        Check.is("2 complaints", 0, d.complaints(1));
        Check.is("2 salted", false, d.isSalted(1));
        Check.refuses("2 connected", STATE, () -> d.addStreet(0, 7, 'a', 1));
        Check.refuses("2 connected the other way", STATE, () -> d.addStreet(1, 0, 'b', 1));
        Check.is("2 count", 2, d.streetCount());
        SnowDispatcher full = Towns.full();
        Check.is("2 twelve", 12, full.streetCount());
        Check.refuses("2 thirteenth", STATE, () -> full.addStreet(6, 7, 'a', 1));
        Check.is("2 still twelve", 12, full.streetCount());
    }

    private static void promise2Order() {
        SnowDispatcher d = Towns.full();
        for (int bad : new int[] {-1, 8, Integer.MIN_VALUE, Integer.MAX_VALUE}) {
            Check.refuses("2 first " + bad, INDEX, () -> d.addStreet(bad, 0, 'x', 0));
            Check.refuses("2 second " + bad, INDEX, () -> d.addStreet(0, bad, 'x', 0));
            Check.refuses("2 both " + bad, INDEX, () -> d.addStreet(bad, bad, 'a', 1));
        }
        Check.refuses("2 same", ARGUMENT, () -> d.addStreet(3, 3, 'a', 1));
        for (char bad : new char[] {'d', '`', 'A', 0, 0xffff}) {
            Check.refuses("2 class " + (int) bad, ARGUMENT, () -> d.addStreet(0, 1, bad, 1));
        }
        for (int bad : new int[] {0, 10, -1, Integer.MIN_VALUE, Integer.MAX_VALUE}) {
            Check.refuses("2 length " + bad, ARGUMENT, () -> d.addStreet(0, 1, 'a', bad));
        }
        Check.is("2 nothing to undo from refusals", 7, d.undo());
        Check.is("2 one street less", 11, d.streetCount());
    }

    private static void promises11To15() {
        SnowDispatcher d = Towns.small();
        Check.is("11", 3, d.streetCount());
        Check.is("12 given second", 0, d.lowerEnd(0));
        Check.is("12 given first", 1, d.lowerEnd(1));
        Check.is("12 far", 6, d.lowerEnd(2));
        Check.is("13 given first", 1, d.higherEnd(0));
        Check.is("13 given second", 2, d.higherEnd(1));
        Check.is("13 far", 7, d.higherEnd(2));
        Check.is("14 b", 'b', d.streetClass(0));
        Check.is("14 a", 'a', d.streetClass(1));
        Check.is("14 c", 'c', d.streetClass(2));
        Check.is("15 3", 3, d.length(0));
        Check.is("15 2", 2, d.length(1));
        Check.is("15 1", 1, d.length(2));
    }

    private static void promise16() {
        SnowDispatcher d = Towns.small();
        d.setSnowfall(4);
        d.advance(59);
        Check.is("16 before the hour", 0, d.depth(1));
        d.advance(1);
        Check.is("16 at the hour", 4, d.depth(1));
        d.addStreet(3, 4, 'a', 1);
        Check.is("16 a new street", 0, d.depth(3));
    }

    private static void promise17() {
        SnowDispatcher d = Towns.small();
        d.setSnowfall(5);
        for (int hour = 1; hour <= 4; hour++) {
            d.advance(60);
            Check.is("17 a, hour " + hour, hour > 1, d.isOverdue(1));
            Check.is("17 b, hour " + hour, hour > 2, d.isOverdue(0));
            Check.is("17 c, hour " + hour, hour > 3, d.isOverdue(2));
        }
        SnowDispatcher slow = Towns.small();
        slow.setSnowfall(1);
        for (int depth = 1; depth <= 20; depth++) {
            slow.advance(60);
            Check.is("17 a, depth " + depth, depth > 5, slow.isOverdue(1));
            Check.is("17 b, depth " + depth, depth > 10, slow.isOverdue(0));
            Check.is("17 c, depth " + depth, depth > 15, slow.isOverdue(2));
            Check.is("20 a, depth " + depth, Math.max(0, depth - 5), slow.complaints(1));
            Check.is("20 b, depth " + depth, Math.max(0, depth - 10), slow.complaints(0));
            Check.is("20 c, depth " + depth, Math.max(0, depth - 15), slow.complaints(2));
        }
    }

    private static void promises18And19() {
        SnowDispatcher d = Towns.small();
        Check.is("18 at first", false, d.isSalted(0));
        Check.refuses("19 at first", ELEMENT, () -> d.saltMinutes(0));
        d.loadSalt(100);
        d.advance(7);
        d.salt(0);
        Check.is("18 salted", true, d.isSalted(0));
        Check.is("18 another", false, d.isSalted(1));
        Check.is("19 salted", 240, d.saltMinutes(0));
        d.advance(100);
        Check.is("19 later", 140, d.saltMinutes(0));
        d.advance(139);
        Check.is("18 last minute", true, d.isSalted(0));
        Check.is("19 last minute", 1, d.saltMinutes(0));
        d.advance(1);
        Check.is("18 over", false, d.isSalted(0));
        Check.refuses("19 over", ELEMENT, () -> d.saltMinutes(0));
        d.advance(300);
        Check.refuses("19 long over", ELEMENT, () -> d.saltMinutes(0));
    }

    private static void promise20() {
        SnowDispatcher d = Towns.small();
        d.setSnowfall(6);
        d.advance(240);
        Check.is("20 a", 4, d.complaints(1));
        Check.is("20 b", 3, d.complaints(0));
        Check.is("20 c", 2, d.complaints(2));
        d.setSnowfall(0);
        d.advance(60);
        Check.is("20 snow that stays", 5, d.complaints(1));
    }

    private static void promises21And22() {
        SnowDispatcher d = Towns.small();
        bothDistances(d, 0, 0, 0);
        bothDistances(d, 5, 5, 0);
        bothDistances(d, 0, 1, 3);
        bothDistances(d, 0, 2, 5);
        bothDistances(d, 2, 0, 5);
        bothDistances(d, 7, 6, 1);
        noDistance(d, 0, 6, ELEMENT);
        noDistance(d, 3, 0, ELEMENT);
        for (int bad : new int[] {-1, 8, Integer.MIN_VALUE, Integer.MAX_VALUE}) {
            noDistance(d, bad, 0, INDEX);
            noDistance(d, 0, bad, INDEX);
            noDistance(d, bad, bad, INDEX);
        }
        d.addStreet(0, 2, 'a', 6);
        bothDistances(d, 0, 2, 5);
        d.addStreet(0, 3, 'a', 1);
        d.addStreet(3, 2, 'a', 1);
        bothDistances(d, 0, 2, 2);
        bothDistances(d, 0, 1, 3);
        d.addStreet(5, 2, 'a', 9);
        d.addStreet(5, 6, 'a', 9);
        bothDistances(d, 7, 1, 21);
        bothDistances(d, 0, 7, 21);
    }

    private static void bothDistances(SnowDispatcher d, int first, int second, int due) {
        Check.is("21 " + first + " " + second, due, d.distance(first, second));
        Check.is("22 " + first + " " + second, due, d.distanceByJunctions(first, second));
    }

    private static void noDistance(SnowDispatcher d, int first, int second, Class<? extends RuntimeException> due) {
        Check.refuses("21 " + first + " " + second, due, () -> d.distance(first, second));
        Check.refuses("22 " + first + " " + second, due, () -> d.distanceByJunctions(first, second));
    }

    private static void promise23() {
        SnowDispatcher d = new SnowDispatcher();
        Check.refuses("23 no street", ELEMENT, () -> d.streetByUrgency(0));
        d.addStreet(0, 1, 'c', 1);
        d.addStreet(0, 2, 'b', 1);
        d.addStreet(0, 3, 'a', 1);
        d.addStreet(0, 4, 'b', 1);
        d.addStreet(0, 5, 'a', 1);
        ranks(d, "2 4 1 3 0 ");
        d.setSnowfall(5);
        d.advance(60);
        d.addPlough(0);
        d.order(0, 2);
        d.advance(4);
        // The cleared street of class a is as far below its limit as those of class b are.
        ranks(d, "4 2 1 3 0 ");
        d.order(0, 4);
        d.advance(6);
        ranks(d, "2 4 1 3 0 ");
        d.advance(50);
        ranks(d, "2 4 1 3 0 ");
        for (int bad : new int[] {-1, 5, 12, Integer.MIN_VALUE, Integer.MAX_VALUE}) {
            Check.refuses("23 rank " + bad, ELEMENT, () -> d.streetByUrgency(bad));
        }
        SnowDispatcher e = new SnowDispatcher();
        e.addStreet(0, 1, 'c', 1);
        e.addStreet(0, 2, 'a', 1);
        e.setSnowfall(5);
        e.advance(120);
        e.addStreet(0, 3, 'a', 1);
        // Street 0 is 5 below its limit of 15 with 10 centimetres, street 2 is 5 below its limit without snow.
        Check.is("23 class before index, 0", 1, e.streetByUrgency(0));
        Check.is("23 class before index, 1", 2, e.streetByUrgency(1));
        Check.is("23 class before index, 2", 0, e.streetByUrgency(2));
    }

    private static void ranks(SnowDispatcher d, String due) {
        StringBuilder got = new StringBuilder();
        for (int rank = 0; rank < d.streetCount(); rank++) {
            got.append(d.streetByUrgency(rank)).append(' ');
        }
        Check.is("23 ranks", due, got.toString());
    }

    private static void noSuchStreet() {
        SnowDispatcher d = Towns.small();
        for (int bad : OUTSIDE) {
            Check.refuses("12 " + bad, INDEX, () -> d.lowerEnd(bad));
            Check.refuses("13 " + bad, INDEX, () -> d.higherEnd(bad));
            Check.refuses("14 " + bad, INDEX, () -> d.streetClass(bad));
            Check.refuses("15 " + bad, INDEX, () -> d.length(bad));
            Check.refuses("16 " + bad, INDEX, () -> d.depth(bad));
            Check.refuses("17 " + bad, INDEX, () -> d.isOverdue(bad));
            Check.refuses("18 " + bad, INDEX, () -> d.isSalted(bad));
            Check.refuses("19 " + bad, INDEX, () -> d.saltMinutes(bad));
            Check.refuses("20 " + bad, INDEX, () -> d.complaints(bad));
        }
        SnowDispatcher full = Towns.full();
        Check.is("12 last", 1, full.lowerEnd(11));
        Check.refuses("12 behind the last", INDEX, () -> full.lowerEnd(12));
    }
}
