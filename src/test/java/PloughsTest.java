import java.util.NoSuchElementException;

/** Promises 3 to 5 and 24 to 33: ploughs, their orders, and predictions. */
public final class PloughsTest {
    private static final Class<IndexOutOfBoundsException> INDEX = IndexOutOfBoundsException.class;
    private static final Class<IllegalArgumentException> ARGUMENT = IllegalArgumentException.class;
    private static final Class<IllegalStateException> STATE = IllegalStateException.class;
    private static final Class<NoSuchElementException> ELEMENT = NoSuchElementException.class;

    public static void main(String[] args) {
        promise3();
        promise4();
        promise5();
        carryingOut();
        nearerEnd();
        equalEnds();
        failing();
        wayIsKept();
        ploughsInTurn();
        promise31();
        promise32();
        promise32Border();
        promise33();
        noSuchPlough();
        Check.end();
    }

    private static void promise3() {
        SnowDispatcher d = new SnowDispatcher();
        for (int bad : new int[] {-1, 8, Integer.MIN_VALUE, Integer.MAX_VALUE}) {
            Check.refuses("3 junction " + bad, INDEX, () -> d.addPlough(bad));
        }
        for (int plough = 0; plough < 4; plough++) {
            Check.is("24", plough, d.ploughCount());
            Check.is("3 index", plough, d.addPlough(7 - plough));
            Check.is("26 start", 7 - plough, d.junction(plough));
            Check.is("25 start", false, d.isBusy(plough));
        }
        Check.refuses("3 fifth", STATE, () -> d.addPlough(0));
        Check.refuses("3 fifth at no junction", INDEX, () -> d.addPlough(8));
        Check.is("24 four", 4, d.ploughCount());
    }

    private static void promise4() {
        SnowDispatcher d = Towns.smallWithPlough();
        for (int number = 1; number <= 5; number++) {
            Check.is("4 number", number, d.order(0, number % 3));
            Check.is("29 number", number, d.queueLength(0));
        }
        Check.refuses("4 sixth", STATE, () -> d.order(0, 0));
        Check.refuses("4 sixth for no street", INDEX, () -> d.order(0, 3));
        Check.refuses("4 street -1", INDEX, () -> d.order(0, -1));
        Check.refuses("4 plough 1", INDEX, () -> d.order(1, 0));
        Check.refuses("4 plough -1", INDEX, () -> d.order(-1, 0));
        Check.is("30 first", 1, d.queuedStreet(0, 0));
        Check.is("30 third", 0, d.queuedStreet(0, 2));
        Check.is("30 last", 2, d.queuedStreet(0, 4));
        for (int bad : new int[] {-1, 5, Integer.MIN_VALUE, Integer.MAX_VALUE}) {
            Check.refuses("30 position " + bad, ELEMENT, () -> d.queuedStreet(0, bad));
            Check.refuses("30 no plough, position " + bad, INDEX, () -> d.queuedStreet(1, bad));
        }
        d.advance(1);
        Check.is("29 one taken", 4, d.queueLength(0));
        Check.is("30 moved up", 2, d.queuedStreet(0, 0));
        Check.refuses("30 behind the last", ELEMENT, () -> d.queuedStreet(0, 4));
        Check.is("4 room again", 5, d.order(0, 0));
    }

    private static void promise5() {
        SnowDispatcher d = Towns.smallWithPlough();
        Check.refuses("5 empty", ELEMENT, () -> d.cancelOrder(0));
        d.order(0, 1);
        d.order(0, 2);
        Check.is("5 last", 2, d.cancelOrder(0));
        Check.is("5 length", 1, d.queueLength(0));
        Check.is("5 the other stays", 1, d.queuedStreet(0, 0));
        d.advance(1);
        Check.refuses("5 the order in work stays", ELEMENT, () -> d.cancelOrder(0));
        Check.is("5 in work", 1, d.currentStreet(0));
        Check.refuses("5 plough 1", INDEX, () -> d.cancelOrder(1));
        Check.refuses("5 plough -1", INDEX, () -> d.cancelOrder(-1));
    }

    private static void carryingOut() {
        SnowDispatcher d = Towns.smallWithPlough();
        Check.refuses("27 idle", ELEMENT, () -> d.currentStreet(0));
        Check.is("28 idle", 0, d.busyMinutes(0));
        d.order(0, 1);
        Check.is("25 only ordered", false, d.isBusy(0));
        Check.is("26 only ordered", 0, d.junction(0));
        d.advance(1);
        Check.is("25 busy", true, d.isBusy(0));
        Check.is("26 where it will be", 2, d.junction(0));
        Check.is("27 busy", 1, d.currentStreet(0));
        Check.is("28 busy", 13, d.busyMinutes(0));
        Check.is("29 taken", 0, d.queueLength(0));
        Check.is("10 not yet cleared", 0, d.advance(12));
        Check.is("25 last minute", true, d.isBusy(0));
        Check.is("28 last minute", 1, d.busyMinutes(0));
        Check.is("27 last minute", 1, d.currentStreet(0));
        Check.is("10 cleared", 1, d.advance(1));
        Check.is("25 idle again", false, d.isBusy(0));
        Check.is("26 idle again", 2, d.junction(0));
        Check.is("28 idle again", 0, d.busyMinutes(0));
        Check.refuses("27 idle again", ELEMENT, () -> d.currentStreet(0));
    }

    private static void nearerEnd() {
        SnowDispatcher d = new SnowDispatcher();
        d.addStreet(0, 5, 'a', 4);
        d.addStreet(0, 3, 'a', 2);
        d.addStreet(3, 5, 'a', 1);
        d.addPlough(3);
        d.order(0, 0);
        d.advance(1);
        Check.is("28 from the higher end", 17, d.busyMinutes(0));
        Check.is("26 at the lower end", 0, d.junction(0));
    }

    private static void equalEnds() {
        SnowDispatcher d = new SnowDispatcher();
        d.addStreet(5, 1, 'a', 3);
        d.addStreet(1, 6, 'a', 2);
        d.addStreet(5, 6, 'a', 2);
        d.addPlough(6);
        d.order(0, 0);
        d.advance(1);
        Check.is("28 equal ends", 15, d.busyMinutes(0));
        Check.is("26 equal ends", 5, d.junction(0));
    }

    private static void failing() {
        SnowDispatcher d = Towns.smallWithPlough();
        d.order(0, 2);
        d.order(0, 2);
        d.order(0, 0);
        d.advance(1);
        Check.is("40 one", 1, d.failedOrders());
        Check.is("25 stays idle", false, d.isBusy(0));
        Check.is("29 dropped", 2, d.queueLength(0));
        d.advance(1);
        Check.is("40 two", 2, d.failedOrders());
        d.advance(1);
        Check.is("28 then the next", 11, d.busyMinutes(0));
        Check.is("40 still two", 2, d.failedOrders());
        Check.is("38 failed ones clear nothing", 0, d.clearedTotal());
    }

    private static void wayIsKept() {
        SnowDispatcher d = new SnowDispatcher();
        d.addStreet(0, 1, 'a', 9);
        d.addStreet(1, 2, 'a', 1);
        d.addPlough(0);
        d.order(0, 1);
        d.advance(1);
        d.addStreet(0, 2, 'a', 1);
        Check.is("28 the way was chosen", 21, d.busyMinutes(0));
        Check.is("26 the way was chosen", 2, d.junction(0));
        Check.is("31 from where it will be", 4, d.orderMinutes(0, 1));
    }

    private static void ploughsInTurn() {
        SnowDispatcher d = new SnowDispatcher();
        d.addStreet(0, 1, 'a', 2);
        d.addPlough(0);
        d.addPlough(1);
        d.setSnowfall(9);
        d.advance(60);
        d.order(0, 0);
        d.order(1, 0);
        d.order(1, 0);
        Check.is("10 counted each time", 2, d.advance(8));
        Check.is("39 the second found no snow", 9, d.ploughedTotal());
        Check.is("26 plough 0", 1, d.junction(0));
        Check.is("26 plough 1", 0, d.junction(1));
        Check.is("29 the next is not yet begun", 1, d.queueLength(1));
        d.advance(1);
        Check.is("29 the next is begun a minute later", 0, d.queueLength(1));
        Check.is("28 the next", 7, d.busyMinutes(1));
    }

    private static void promise31() {
        SnowDispatcher d = Towns.smallWithPlough();
        Check.is("31 at its end", 12, d.orderMinutes(0, 0));
        Check.is("31 with a drive", 14, d.orderMinutes(0, 1));
        Check.refuses("31 no path", ELEMENT, () -> d.orderMinutes(0, 2));
        for (int bad : new int[] {-1, 3, 12, Integer.MIN_VALUE, Integer.MAX_VALUE}) {
            Check.refuses("31 street " + bad, INDEX, () -> d.orderMinutes(0, bad));
            Check.refuses("31 plough " + bad, INDEX, () -> d.orderMinutes(bad, 2));
        }
        d.order(0, 1);
        d.advance(3);
        Check.is("31 busy, from where it will be", 16, d.orderMinutes(0, 0));
        Check.is("31 changes nothing", 11, d.busyMinutes(0));
    }

    private static void promise32() {
        SnowDispatcher d = Towns.smallWithPlough();
        Check.refuses("32 not ordered", ELEMENT, () -> d.minutesUntilCleared(0));
        d.order(0, 1);
        d.order(0, 2);
        d.order(0, 0);
        d.order(0, 0);
        Check.is("32 first", 14, d.minutesUntilCleared(1));
        Check.is("32 after a failed one", 31, d.minutesUntilCleared(0));
        Check.refuses("32 never", ELEMENT, () -> d.minutesUntilCleared(2));
        Check.is("32 changes nothing", 0, d.time());
        Check.is("32 the queue stays", 4, d.queueLength(0));
        d.advance(13);
        Check.is("32 next minute", 1, d.minutesUntilCleared(1));
        d.advance(1);
        Check.refuses("32 cleared", ELEMENT, () -> d.minutesUntilCleared(1));
        for (int bad : new int[] {-1, 3, 12, Integer.MIN_VALUE, Integer.MAX_VALUE}) {
            Check.refuses("32 street " + bad, INDEX, () -> d.minutesUntilCleared(bad));
        }
    }

    /** The plough drives to and fro along a row of long streets, so that the last order ends after 600 minutes. */
    private static void promise32Border() {
        SnowDispatcher d = new SnowDispatcher();
        for (int junction = 0; junction < 7; junction++) {
            d.addStreet(junction, junction + 1, 'a', 9);
        }
        d.addPlough(0);
        d.order(0, 6);
        d.order(0, 0);
        d.order(0, 6);
        d.order(0, 0);
        d.order(0, 3);
        // Each street takes 18 minutes to drive along and 36 to plough.
        int due = 4 * (6 * 18 + 36) + 3 * 18 + 36;
        int early = due - 600;
        Check.refuses("32 beyond 600", ELEMENT, () -> d.minutesUntilCleared(3));
        d.advance(early - 1);
        Check.refuses("32 at 601", ELEMENT, () -> d.minutesUntilCleared(3));
        d.advance(1);
        Check.is("32 at 600", 600, d.minutesUntilCleared(3));
        Check.is("10 to the minute before", 4, d.advance(599));
        Check.is("10 at the minute", 1, d.advance(1));
    }

    private static void promise33() {
        SnowDispatcher d = Towns.smallWithPlough();
        d.setSnowfall(7);
        d.advance(60);
        d.setWind(1);
        d.order(0, 1);
        Check.is("33 now", 7, d.depthAfter(1, 0));
        Check.is("33 before it is cleared", 7, d.depthAfter(1, 13));
        Check.is("33 cleared", 0, d.depthAfter(1, 14));
        Check.is("33 before the hour", 0, d.depthAfter(1, 59));
        // 14 7 14 before the drift; street 1 loses 1 and gets 1
        Check.is("33 at the hour", 7, d.depthAfter(1, 60));
        Check.is("33 longest", 7 + 9 * 7, d.depthAfter(1, 600));
        Check.refuses("33 -1", ARGUMENT, () -> d.depthAfter(1, -1));
        Check.refuses("33 601", ARGUMENT, () -> d.depthAfter(1, 601));
        Check.refuses("33 least", ARGUMENT, () -> d.depthAfter(1, Integer.MIN_VALUE));
        Check.refuses("33 greatest", ARGUMENT, () -> d.depthAfter(1, Integer.MAX_VALUE));
        Check.refuses("33 street 3", INDEX, () -> d.depthAfter(3, 601));
        Check.refuses("33 street -1", INDEX, () -> d.depthAfter(-1, 0));
        d.setWind(0);
        d.advance(59);
        Check.is("33 now, a minute before the hour", 0, d.depthAfter(1, 0));
        Check.is("33 after that minute", 7, d.depthAfter(1, 1));
        d.undo();
        d.undo();
        Check.is("33 changes nothing", 60, d.time());
        Check.is("33 no clearing", 0, d.clearedTotal());
        Check.is("33 the complaints stay", 1, d.complaintTotal());
        Check.is("33 the queue stays", "1", Towns.queueText(d, 0));
    }

    private static void noSuchPlough() {
        SnowDispatcher d = Towns.smallWithPlough();
        for (int bad : new int[] {-1, 1, 4, 5, 100, Integer.MIN_VALUE, Integer.MAX_VALUE}) {
            Check.refuses("25 " + bad, INDEX, () -> d.isBusy(bad));
            Check.refuses("26 " + bad, INDEX, () -> d.junction(bad));
            Check.refuses("27 " + bad, INDEX, () -> d.currentStreet(bad));
            Check.refuses("28 " + bad, INDEX, () -> d.busyMinutes(bad));
            Check.refuses("29 " + bad, INDEX, () -> d.queueLength(bad));
            Check.refuses("30 " + bad, INDEX, () -> d.queuedStreet(bad, 0));
        }
    }
}
