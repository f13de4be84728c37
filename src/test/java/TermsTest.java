import java.util.NoSuchElementException;

/** The sentences under 'Terms' of the document, each at its bounds: streets, ploughs, salt, weather and minutes. */
public final class TermsTest {
    private static final Class<NoSuchElementException> ELEMENT = NoSuchElementException.class;
    private static final Class<IllegalStateException> STATE = IllegalStateException.class;

    public static void main(String[] args) {
        uses512Calls();
        junctionsZeroToSeven();
        twelveStreets();
        oneStreetBetweenTwoJunctions();
        lengthsAndClasses();
        limits();
        fourPloughs();
        fiveOrders();
        queueGoesRound();
        sameStreetSeveralTimes();
        fromEitherEnd();
        fromTheNearerEnd();
        lowerEndOfTwoEquallyNear();
        driveAndPloughMinutes();
        busyForAllMinutes();
        oneOrderAtATime();
        failsWithoutPath();
        failsOneEachMinute();
        pathIsSoughtWhenTaken();
        ploughsInOrder();
        Check.end();
    }

    private static void uses512Calls() {
        SnowDispatcher d = new SnowDispatcher();
        d.addStreet(0, 1, 'a', 1);
        for (int call = 2; call <= 511; call++) {
            d.advance(600);
        }
        Check.is("Use: the 512th call", 510 * 600, d.time());
    }

    private static void junctionsZeroToSeven() {
        SnowDispatcher d = new SnowDispatcher();
        for (int junction = 0; junction <= 7; junction++) {
            Check.is("Streets: junction " + junction, 0, d.distance(junction, junction));
            Check.is("Streets: junction " + junction, 0, d.distanceByJunctions(junction, junction));
        }
        for (int first = 0; first <= 7; first++) {
            for (int second = first + 1; second <= 7; second++) {
                SnowDispatcher e = new SnowDispatcher();
                Check.is("Streets: a first one", 0, e.addStreet(second, first, 'b', 2));
                Check.is("Streets: its ends", first + "-" + second, e.lowerEnd(0) + "-" + e.higherEnd(0));
                Check.is("Streets: its distance", 2, e.distance(first, second));
                Check.is("Streets: its distance", 2, e.distanceByJunctions(second, first));
            }
        }
    }

    private static void twelveStreets() {
        SnowDispatcher d = new SnowDispatcher();
        for (int added = 0; added < 12; added++) {
            Check.is("Streets: count before", added, d.streetCount());
            int first = added < 7 ? 0 : 1;
            int second = added < 7 ? added + 1 : added - 5;
            Check.is("Streets: index", added, d.addStreet(first, second, 'a', 1));
            Check.is("Streets: depth is initially 0", 0, d.depth(added));
            Check.is("Streets: the order in which they were added", second, d.higherEnd(added));
        }
        Check.refuses("Streets: a thirteenth", STATE, () -> d.addStreet(1, 7, 'a', 1));
        Check.is("Streets: twelve", 12, d.streetCount());
        Check.is("Streets: a count after an undo", 7, d.undo());
        Check.is("Streets: the twelfth again", 11, d.addStreet(1, 7, 'a', 1));
    }

    private static void oneStreetBetweenTwoJunctions() {
        SnowDispatcher d = new SnowDispatcher();
        d.addStreet(2, 5, 'a', 1);
        Check.refuses("Streets: the same two", STATE, () -> d.addStreet(2, 5, 'b', 2));
        Check.refuses("Streets: the same two the other way", STATE, () -> d.addStreet(5, 2, 'a', 1));
        Check.is("Streets: one end of it", 1, d.addStreet(2, 4, 'a', 1));
        Check.is("Streets: the other end of it", 2, d.addStreet(5, 6, 'a', 1));
        Check.is("Streets: one end, the other way", 3, d.addStreet(1, 2, 'a', 1));
        Check.is("Streets: two that a path joins", 4, d.addStreet(4, 5, 'a', 1));
        Check.refuses("Streets: a later one again", STATE, () -> d.addStreet(5, 4, 'a', 1));
    }

    private static void lengthsAndClasses() {
        SnowDispatcher d = new SnowDispatcher();
        for (int length = 1; length <= 9; length++) {
            int street = d.addStreet(length < 8 ? 0 : 1, length < 8 ? length : length - 6, 'a', length);
            Check.is("Streets: length " + length, length, d.length(street));
        }
        SnowDispatcher e = new SnowDispatcher();
        for (char streetClass = 'a'; streetClass <= 'c'; streetClass++) {
            int street = e.addStreet(0, 1 + streetClass - 'a', streetClass, 1);
            Check.is("Streets: class", streetClass, e.streetClass(street));
        }
    }

    private static void limits() {
        limit('a', 5);
        limit('b', 10);
        limit('c', 15);
    }

    private static void limit(char streetClass, int limit) {
        Check.is("Streets: below the limit of " + streetClass, false, Towns.snowy(streetClass, limit - 1).isOverdue(0));
        Check.is("Streets: at the limit of " + streetClass, false, Towns.snowy(streetClass, limit).isOverdue(0));
        Check.is("Streets: above the limit of " + streetClass, true, Towns.snowy(streetClass, limit + 1).isOverdue(0));
        Check.is("Streets: without snow, " + streetClass, false, Towns.snowy(streetClass, 0).isOverdue(0));
        Check.is("Streets: with all snow, " + streetClass, true, Towns.snowy(streetClass, 200).isOverdue(0));
    }

    private static void fourPloughs() {
        SnowDispatcher d = new SnowDispatcher();
        for (int plough = 0; plough < 4; plough++) {
            Check.is("Ploughs: index", plough, d.addPlough(3));
            Check.is("Ploughs: idle", false, d.isBusy(plough));
            Check.is("Ploughs: no orders", 0, d.queueLength(plough));
            Check.is("Ploughs: all at one junction", 3, d.junction(plough));
        }
        Check.refuses("Ploughs: a fifth", STATE, () -> d.addPlough(3));
        Check.is("Ploughs: four", 4, d.ploughCount());
        d.undo();
        Check.is("Ploughs: the fourth again", 3, d.addPlough(7));
    }

    private static void fiveOrders() {
        SnowDispatcher d = Towns.small();
        d.addPlough(0);
        d.addPlough(0);
        for (int orders = 1; orders <= 5; orders++) {
            Check.is("Ploughs: orders in the queue", orders, d.order(1, 0));
        }
        Check.refuses("Ploughs: a sixth order", STATE, () -> d.order(1, 0));
        Check.is("Ploughs: the other's queue is apart", 1, d.order(0, 1));
        d.cancelOrder(1);
        Check.is("Ploughs: five again", 5, d.order(1, 1));
        d.advance(1);
        Check.is("Ploughs: the one in work is not in the queue", 5, d.order(1, 1));
        Check.refuses("Ploughs: a sixth while busy", STATE, () -> d.order(1, 1));
    }

    private static void queueGoesRound() {
        SnowDispatcher d = new SnowDispatcher();
        d.addStreet(0, 1, 'a', 1);
        d.addStreet(0, 2, 'a', 1);
        d.addStreet(1, 2, 'a', 1);
        d.addPlough(0);
        int[] due = new int[40];
        for (int number = 0; number < due.length; number++) {
            due[number] = number * number % 7 % 3;
        }
        int ordered = 0;
        for (int taken = 0; taken < 35; taken++) {
            while (d.queueLength(0) < 5) {
                d.order(0, due[ordered]);
                ordered++;
            }
            d.advance(1);
            Check.is("Ploughs: the first order is taken, " + taken, due[taken], d.currentStreet(0));
            Check.is("Ploughs: the next is the first, " + taken, due[taken + 1], d.queuedStreet(0, 0));
            Check.is("Ploughs: the latest is the last, " + taken, due[taken + 4], d.queuedStreet(0, 3));
            d.advance(d.busyMinutes(0));
        }
        Check.is("Ploughs: all carried out", 35, d.clearedTotal());
    }

    private static void sameStreetSeveralTimes() {
        SnowDispatcher d = new SnowDispatcher();
        d.addStreet(0, 1, 'a', 1);
        d.addPlough(0);
        for (int order = 1; order <= 5; order++) {
            Check.is("Ploughs: the same street", order, d.order(0, 0));
        }
        Check.is("Ploughs: carried out each time", 5, d.advance(20));
        Check.is("Ploughs: to and fro", 1, d.junction(0));
    }

    private static void fromEitherEnd() {
        for (int length = 1; length <= 9; length++) {
            fromAnEnd(length, 2, 6);
            fromAnEnd(length, 6, 2);
        }
    }

    private static void fromAnEnd(int length, int start, int end) {
        SnowDispatcher d = new SnowDispatcher();
        d.addStreet(2, 6, 'a', length);
        d.addPlough(start);
        Check.is("Carrying out: no drive", 4 * length, d.orderMinutes(0, 0));
        d.order(0, 0);
        Check.is("Carrying out: not before the last minute", 0, d.advance(4 * length - 1));
        Check.is("Carrying out: busy before it", 1, d.busyMinutes(0));
        Check.is("Carrying out: at the last minute", 1, d.advance(1));
        Check.is("Carrying out: idle at the other end", end, d.junction(0));
        Check.is("Carrying out: idle", false, d.isBusy(0));
    }

    private static void fromTheNearerEnd() {
        endsThatDiffer(3, 4, 5);
        endsThatDiffer(4, 3, 2);
        endsThatDiffer(1, 9, 5);
        endsThatDiffer(9, 1, 2);
    }

    /** The plough at junction 7 is this far from the ends 2 and 5 of a street of length 9. */
    private static void endsThatDiffer(int toLower, int toHigher, int due) {
        SnowDispatcher d = new SnowDispatcher();
        d.addStreet(2, 5, 'a', 9);
        d.addStreet(7, 2, 'a', toLower);
        d.addStreet(7, 5, 'a', toHigher);
        d.addPlough(7);
        d.order(0, 0);
        d.advance(1);
        Check.is("Carrying out: the end with the smaller distance", due, d.junction(0));
        Check.is("Carrying out: its minutes", 2 * Math.min(toLower, toHigher) + 36 - 1, d.busyMinutes(0));
    }

    private static void lowerEndOfTwoEquallyNear() {
        for (int length = 1; length <= 9; length++) {
            endsThatDiffer(length, length, 5);
        }
        SnowDispatcher d = new SnowDispatcher();
        d.addStreet(5, 2, 'a', 1);
        d.addStreet(5, 0, 'a', 2);
        d.addStreet(2, 0, 'a', 2);
        d.addPlough(0);
        d.order(0, 0);
        Check.is("Carrying out: its last minute not yet", 0, d.advance(2 * 2 + 4 - 1));
        Check.is("Carrying out: its last minute", 1, d.advance(1));
        Check.is("Carrying out: from the lower number to the higher one", 5, d.junction(0));
    }

    private static void driveAndPloughMinutes() {
        SnowDispatcher d = new SnowDispatcher();
        for (int junction = 0; junction < 7; junction++) {
            d.addStreet(junction, junction + 1, 'a', junction + 1);
        }
        d.addPlough(0);
        int drive = 0;
        for (int street = 0; street < 7; street++) {
            int due = 2 * drive + 4 * (street + 1);
            Check.is("Carrying out: minutes to street " + street, due, d.orderMinutes(0, street));
            drive += street + 1;
        }
        d.order(0, 6);
        Check.is("Carrying out: driving clears nothing", 0, d.advance(2 * 21 + 4 * 7 - 1));
        Check.is("Carrying out: only the ordered street", 1, d.advance(1));
        Check.is("Carrying out: at the far end", 7, d.junction(0));
    }

    private static void busyForAllMinutes() {
        SnowDispatcher d = Towns.snowy('a', 30, 30, 7);
        d.addPlough(0);
        d.order(0, 2);
        int all = 2 * 2 + 4;
        for (int minute = 1; minute < all; minute++) {
            Check.is("Carrying out: nothing cleared, minute " + minute, 0, d.advance(1));
            Check.is("Carrying out: busy, minute " + minute, true, d.isBusy(0));
            Check.is("Carrying out: minutes left, minute " + minute, all - minute, d.busyMinutes(0));
            Check.is("Carrying out: snow lies, minute " + minute, "30 30 7", Towns.depths(d));
        }
        Check.is("Carrying out: the last minute", 1, d.advance(1));
        Check.is("Carrying out: the depth becomes 0", "30 30 0", Towns.depths(d));
        Check.is("Carrying out: idle then", false, d.isBusy(0));
        Check.is("Carrying out: what lay there", 7, d.ploughedTotal());
    }

    private static void oneOrderAtATime() {
        SnowDispatcher d = new SnowDispatcher();
        d.addStreet(0, 1, 'a', 1);
        d.addPlough(0);
        d.order(0, 0);
        d.order(0, 0);
        d.advance(4);
        Check.is("One minute: the next order waits for the next", "false 1", d.isBusy(0) + " " + d.queueLength(0));
        d.advance(1);
        Check.is("One minute: then a minute of it passes", "3 0", d.busyMinutes(0) + " " + d.queueLength(0));
        d.advance(3);
        Check.is("One minute: an idle plough without orders stays idle", 0, d.advance(600));
        Check.is("One minute: where it is", 0, d.junction(0));
    }

    private static void failsWithoutPath() {
        SnowDispatcher d = Towns.smallWithPlough();
        d.addPlough(6);
        d.order(0, 2);
        d.order(1, 2);
        d.advance(1);
        Check.is("Carrying out: no path, one fails", 1, d.failedOrders());
        Check.is("Carrying out: no path, dropped", 0, d.queueLength(0));
        Check.is("Carrying out: no path, idle", "0 0", d.busyMinutes(0) + " " + d.junction(0));
        Check.is("Carrying out: no path, idle", false, d.isBusy(0));
        Check.is("Carrying out: a path of no streets", true, d.isBusy(1));
        d.advance(3);
        Check.is("Carrying out: the other one clears it", 1, d.clearedTotal());
        SnowDispatcher e = Towns.small();
        e.addPlough(4);
        e.order(0, 0);
        e.advance(1);
        Check.is("Carrying out: a junction without streets", 1, e.failedOrders());
    }

    private static void failsOneEachMinute() {
        SnowDispatcher d = Towns.smallWithPlough();
        for (int order = 0; order < 5; order++) {
            d.order(0, order < 4 ? 2 : 0);
        }
        for (int minute = 1; minute <= 4; minute++) {
            d.advance(1);
            Check.is("Carrying out: failed in minute " + minute, minute, d.failedOrders());
            Check.is("Carrying out: left in minute " + minute, 5 - minute, d.queueLength(0));
            Check.is("Carrying out: idle for minute " + minute, false, d.isBusy(0));
        }
        d.advance(1);
        Check.is("Carrying out: then the next", 11, d.busyMinutes(0));
    }

    private static void pathIsSoughtWhenTaken() {
        SnowDispatcher d = Towns.smallWithPlough();
        d.order(0, 0);
        d.order(0, 2);
        d.advance(5);
        Check.is("Carrying out: not yet failed", 0, d.failedOrders());
        d.addStreet(1, 6, 'a', 4);
        d.advance(7);
        Check.is("Carrying out: the first ends", 1, d.clearedTotal());
        d.advance(1);
        Check.is("Carrying out: a path since then", 2 * 4 + 4 - 1, d.busyMinutes(0));
        d.addStreet(0, 6, 'a', 1);
        d.addStreet(1, 7, 'a', 1);
        Check.is("Carrying out: the way does not change any more", "11 7", d.busyMinutes(0) + " " + d.junction(0));
        d.advance(11);
        Check.is("Carrying out: it ends as chosen", "0 7", d.busyMinutes(0) + " " + d.junction(0));
        Check.is("Carrying out: both are cleared", 2, d.clearedTotal());
    }

    private static void ploughsInOrder() {
        SnowDispatcher d = Towns.snowy('a', 9, 9);
        d.addPlough(1);
        d.addPlough(2);
        d.addPlough(0);
        d.addPlough(1);
        d.order(0, 0);
        d.order(1, 1);
        d.order(2, 0);
        d.order(3, 1);
        Check.is("One minute: all ploughs work", 0, d.advance(3));
        Check.is("One minute: each counts", 4, d.advance(1));
        Check.is("One minute: the later ones find no snow", 18, d.ploughedTotal());
        Check.is("One minute: all totals", 4, d.clearedTotal());
        Check.is("One minute: all are idle", "0 1 1 2",
                d.junction(0) + " " + d.junction(1) + " " + d.junction(2) + " " + d.junction(3));
    }
}
