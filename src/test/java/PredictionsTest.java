import java.util.NoSuchElementException;

/** The sentences about predictions, at their bounds, and that nothing that is asked changes the state. */
public final class PredictionsTest {
    private static final Class<NoSuchElementException> ELEMENT = NoSuchElementException.class;

    public static void main(String[] args) {
        clearedFirst();
        clearedWithin600();
        clearedByTheFirstOfSeveral();
        clearedAfterAFailure();
        clearedOnceMore();
        depthAtEachMinute();
        depthFor0And600();
        depthInOneMinute();
        clearedByTheLastPlough();
        asItComesTrue();
        askingChangesNothing();
        Check.end();
    }

    private static void clearedFirst() {
        SnowDispatcher d = Towns.snowy('a', 1);
        d.addPlough(0);
        d.order(0, 0);
        for (int left = 4; left >= 1; left--) {
            Check.is("32 minutes left", left, d.minutesUntilCleared(0));
            d.advance(1);
        }
        Check.is("32 it was cleared", 0, d.depth(0));
        Check.refuses("32 no longer awaited", ELEMENT, () -> d.minutesUntilCleared(0));
        d.order(0, 0);
        d.order(0, 0);
        Check.is("32 without snow, the first time of two", 4, d.minutesUntilCleared(0));
    }

    /** Five orders to and fro along seven long streets last longer than 600 minutes. */
    private static void clearedWithin600() {
        int due = 4 * (6 * 18 + 36) + 3 * 18 + 36;
        Twins.refuses("32 at 601", ELEMENT, () -> longRowAt(due - 601), e -> e.minutesUntilCleared(3));
        Twins.keeps("32 at 600", 600, () -> longRowAt(due - 600), e -> e.minutesUntilCleared(3));
        Twins.keeps("32 at 599", 599, () -> longRowAt(due - 599), e -> e.minutesUntilCleared(3));
        SnowDispatcher d = longRowAt(due - 600);
        Check.is("32 not before", 4, d.advance(599));
        Check.is("32 comes true", 1, d.advance(1));
    }

    private static SnowDispatcher longRow() {
        SnowDispatcher d = new SnowDispatcher();
        for (int junction = 0; junction < 7; junction++) {
            d.addStreet(junction, junction + 1, 'a', 9);
        }
        d.addPlough(0);
        for (int street : new int[] {6, 0, 6, 0, 3}) {
            d.order(0, street);
        }
        return d;
    }

    private static SnowDispatcher longRowAt(int time) {
        SnowDispatcher d = longRow();
        d.advance(time);
        return d;
    }

    private static void clearedByTheFirstOfSeveral() {
        SnowDispatcher d = new SnowDispatcher();
        d.addStreet(0, 1, 'a', 2);
        d.addStreet(1, 2, 'a', 1);
        d.addPlough(0);
        d.addPlough(2);
        d.order(0, 1);
        Check.is("32 the only one", 2 * 2 + 4, d.minutesUntilCleared(1));
        d.order(1, 1);
        Check.is("32 the nearer one", 4, d.minutesUntilCleared(1));
        d.cancelOrder(1);
        Check.is("32 the only one again", 8, d.minutesUntilCleared(1));
        Check.refuses("32 another street", ELEMENT, () -> d.minutesUntilCleared(0));
    }

    private static void clearedAfterAFailure() {
        SnowDispatcher d = Towns.smallWithPlough();
        d.order(0, 2);
        Check.refuses("32 no path", ELEMENT, () -> d.minutesUntilCleared(2));
        d.order(0, 0);
        Check.is("32 a minute for the failed order", 1 + 12, d.minutesUntilCleared(0));
        Check.is("32 it has not failed yet", 0, d.failedOrders());
        d.addStreet(0, 6, 'a', 1);
        Check.is("32 a path since then", 2 + 4, d.minutesUntilCleared(2));
        Check.is("32 and the one behind it", 2 + 4 + 2 * 2 + 12, d.minutesUntilCleared(0));
    }

    private static void clearedOnceMore() {
        SnowDispatcher d = Towns.snowy('a', 1, 1);
        d.addPlough(0);
        d.order(0, 0);
        d.advance(4);
        Check.refuses("32 cleared before", ELEMENT, () -> d.minutesUntilCleared(0));
        d.order(0, 1);
        d.order(0, 0);
        Check.is("32 the next time", 4 + 2 + 4, d.minutesUntilCleared(0));
        d.advance(1);
        Check.is("32 a minute later", 9, d.minutesUntilCleared(0));
    }

    private static void depthAtEachMinute() {
        SnowDispatcher d = Towns.snowy('a', 20);
        d.addPlough(0);
        d.setSnowfall(9);
        d.advance(50);
        d.order(0, 0);
        int[] due = {20, 20, 20, 20, 0, 0, 0, 0, 0, 0, 9, 9};
        for (int minutes = 0; minutes < due.length; minutes++) {
            Check.is("33 in " + minutes, due[minutes], d.depthAfter(0, minutes));
        }
        Check.is("33 before the second hour", 9, d.depthAfter(0, 69));
        Check.is("33 at the second hour", 18, d.depthAfter(0, 70));
        Check.is("33 before the last hour", 81, d.depthAfter(0, 549));
        Check.is("33 at the last hour", 90, d.depthAfter(0, 550));
        Check.is("33 in 600", 90, d.depthAfter(0, 600));
    }

    private static void depthFor0And600() {
        SnowDispatcher d = Towns.snowy('a', 199);
        d.setSnowfall(9);
        Check.is("33 not above 200", 200, d.depthAfter(0, 600));
        Check.is("33 not yet", 199, d.depthAfter(0, 59));
        Check.is("33 now", 199, d.depthAfter(0, 0));
    }

    private static void depthInOneMinute() {
        SnowDispatcher d = Towns.snowy('a', 20);
        d.addPlough(0);
        d.setSnowfall(9);
        d.advance(50);
        d.order(0, 0);
        d.advance(3);
        Check.is("33 before it is cleared", "20 0", d.depthAfter(0, 0) + " " + d.depthAfter(0, 1));
        d.advance(6);
        Check.is("33 before the hour", "0 9", d.depthAfter(0, 0) + " " + d.depthAfter(0, 1));
        d.advance(1);
        Check.is("33 at the hour", "9 9", d.depthAfter(0, 0) + " " + d.depthAfter(0, 1));
    }

    /** The fifth order of the fourth plough is for the only street of its own. */
    private static void clearedByTheLastPlough() {
        SnowDispatcher d = Towns.full();
        for (int plough = 0; plough < 4; plough++) {
            d.addPlough(0);
            for (int order = 0; order < 4; order++) {
                d.order(plough, 0);
            }
        }
        d.order(3, 11);
        // Four times to and fro, then from junction 0 to 1 and from there to 6.
        Check.is("32 the last order of the last plough", 4 * 4 + 2 + 4, d.minutesUntilCleared(11));
        Check.is("32 the first orders of all", 4, d.minutesUntilCleared(0));
        Check.refuses("32 no order", ELEMENT, () -> d.minutesUntilCleared(10));
        Check.is("32 only the others before", 4 * 4, d.advance(21));
        Check.is("32 comes true", 1, d.advance(1));
    }

    private static void asItComesTrue() {
        SnowDispatcher d = Twins.busy();
        int[] predicted = new int[140];
        for (int minutes = 1; minutes <= 140; minutes++) {
            predicted[minutes - 1] = d.depthAfter(0, minutes);
        }
        int due = d.minutesUntilCleared(0);
        int cleared = 0;
        for (int minutes = 1; minutes <= 140; minutes++) {
            d.advance(1);
            Check.is("33 comes true, minute " + minutes, predicted[minutes - 1], d.depth(0));
            cleared = cleared == 0 && d.depth(0) == 0 ? minutes : cleared;
        }
        Check.is("32 comes true", due, cleared);
    }

    private static void askingChangesNothing() {
        for (int street = 0; street < 3; street++) {
            int asked = street;
            Twins.keeps("Predictions: depthAfter", true, Twins::busy, d -> d.depthAfter(asked, 600) >= 0);
            Twins.keeps("31 changes nothing", true, Twins::busy,
                    d -> Check.outcome(() -> d.orderMinutes(1, asked)) != null);
            Twins.keeps("Predictions: minutesUntilCleared", true, Twins::busy,
                    d -> Check.outcome(() -> d.minutesUntilCleared(asked)) != null);
        }
        Twins.keeps("21 changes nothing", 5, Twins::busy, d -> d.distance(0, 2));
        Twins.keeps("22 changes nothing", 5, Twins::busy, d -> d.distanceByJunctions(0, 2));
        Twins.keeps("44 changes nothing", true, Twins::busy, d -> d.isConsistent());
        Twins.keeps("44 changes nothing, all full", true, Twins::full, d -> d.isConsistent());
        Twins.keeps("33 changes nothing, all full", true, Twins::full, d -> d.depthAfter(11, 600) >= 0);
    }
}
