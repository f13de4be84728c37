import java.util.NoSuchElementException;

/** The descriptions and 'Returns' sentences of the promises: the least and the greatest answers, and those between. */
public final class AnswersTest {
    public static void main(String[] args) {
        newObject();
        adding();
        ordering();
        saltLeft();
        saltLoaded();
        previousRates();
        clearedByAdvance();
        longestAdvance();
        streetsAsAdded();
        leastAndGreatestDistance();
        distanceOfAllPairs();
        urgencyByExcess();
        urgencyByClass();
        urgencyByIndex();
        complaintsOfEach();
        ploughsAtWork();
        greatestOrder();
        totals();
        mean();
        share();
        consistency();
        streetTexts();
        queueTexts();
        outputIsReplaced();
        Check.end();
    }

    private static void newObject() {
        SnowDispatcher d = new SnowDispatcher();
        Check.is("1 no streets", 0, d.streetCount());
        Check.is("1 no ploughs", 0, d.ploughCount());
        Check.is("1 time 0", 0, d.time());
        Check.is("1 store, rate, force", "0 0 0", d.saltStore() + " " + d.snowfall() + " " + d.wind());
        Check.is("1 totals", "0 0 0 0",
                d.clearedTotal() + " " + d.ploughedTotal() + " " + d.failedOrders() + " " + d.complaintTotal());
        SnowDispatcher other = new SnowDispatcher();
        d.addStreet(0, 1, 'a', 1);
        d.setWind(3);
        d.save();
        d.type('x');
        d.renderStreet(0);
        Check.is("1 objects are apart", "0 0", other.streetCount() + " " + other.wind());
        Check.is("1 buffers are apart", 1, other.type('y'));
        Check.refuses("1 texts are apart", IndexOutOfBoundsException.class, () -> other.outputAt(0));
        Check.refuses("1 snapshots are apart", IllegalStateException.class, () -> other.restore());
    }

    private static void adding() {
        SnowDispatcher d = new SnowDispatcher();
        Check.is("2 the first index", 0, d.addStreet(0, 7, 'a', 1));
        Check.is("2 greatest values", 1, d.addStreet(7, 6, 'c', 9));
        Check.is("2 what it is", "6 7 c 9 0", d.lowerEnd(1) + " " + d.higherEnd(1) + " " + d.streetClass(1) + " "
                + d.length(1) + " " + d.depth(1));
        Check.is("11", 2, d.streetCount());
        Check.is("3 the first index", 0, d.addPlough(0));
        Check.is("3 the greatest junction", 1, d.addPlough(7));
        Check.is("3 where they are", "0 7", d.junction(0) + " " + d.junction(1));
        Check.is("3 idle", "false false", d.isBusy(0) + " " + d.isBusy(1));
        Check.is("24", 2, d.ploughCount());
    }

    private static void ordering() {
        SnowDispatcher d = Towns.full();
        for (int plough = 0; plough < 4; plough++) {
            d.addPlough(0);
        }
        for (int orders = 1; orders <= 5; orders++) {
            Check.is("4 the last plough, the last streets", orders, d.order(3, 12 - orders));
        }
        Check.is("29 the queue", 5, d.queueLength(3));
        Check.is("29 an empty queue", 0, d.queueLength(2));
        for (int position = 0; position < 5; position++) {
            Check.is("30 position " + position, 11 - position, d.queuedStreet(3, position));
        }
        for (int street = 7; street <= 11; street++) {
            Check.is("5 the last order first", street, d.cancelOrder(3));
        }
        Check.is("29 none is left", 0, d.queueLength(3));
        Check.is("4 the first again", 1, d.order(3, 0));
        Check.is("5 street 0", 0, d.cancelOrder(3));
    }

    private static void saltLeft() {
        SnowDispatcher d = new SnowDispatcher();
        d.addStreet(0, 1, 'a', 9);
        d.addStreet(1, 2, 'a', 1);
        d.addStreet(2, 3, 'a', 4);
        d.loadSalt(14);
        Check.is("6 left, length 9", 5, d.salt(0));
        Check.is("6 left, length 4", 1, d.salt(2));
        Check.is("6 nothing left", 0, d.salt(1));
        Check.is("35", 0, d.saltStore());
        Check.is("6 all are salted", "true true true", d.isSalted(0) + " " + d.isSalted(1) + " " + d.isSalted(2));
    }

    private static void saltLoaded() {
        SnowDispatcher d = new SnowDispatcher();
        Check.is("7 least", 1, d.loadSalt(1));
        Check.is("7 greatest", 201, d.loadSalt(200));
        Check.is("7 once more", 400, d.loadSalt(199));
        Check.is("7 full", 500, d.loadSalt(100));
        SnowDispatcher once = new SnowDispatcher();
        once.loadSalt(200);
        once.loadSalt(100);
        Check.is("7 200 to fill it", 500, once.loadSalt(200));
    }

    private static void previousRates() {
        SnowDispatcher d = new SnowDispatcher();
        Check.is("8 0 to 9", 0, d.setSnowfall(9));
        Check.is("8 9 to 0", 9, d.setSnowfall(0));
        Check.is("8 0 to 0", 0, d.setSnowfall(0));
        Check.is("9 0 to 9", 0, d.setWind(9));
        Check.is("9 9 to 9", 9, d.setWind(9));
        Check.is("9 9 to 0", 9, d.setWind(0));
        Check.is("36 and 37", "0 0", d.snowfall() + " " + d.wind());
        d.setSnowfall(3);
        Check.is("36 and 37 are apart", "3 0", d.snowfall() + " " + d.wind());
    }

    private static void clearedByAdvance() {
        SnowDispatcher d = new SnowDispatcher();
        d.addStreet(0, 1, 'a', 1);
        for (int plough = 0; plough < 4; plough++) {
            d.addPlough(plough % 2);
            for (int order = 0; order < 5; order++) {
                d.order(plough, 0);
            }
        }
        Check.is("10 none yet", 0, d.advance(3));
        Check.is("10 four at once", 4, d.advance(1));
        Check.is("10 none, again", 0, d.advance(1));
        Check.is("10 the same street each time", 16, d.advance(600));
        Check.is("10 none any more", 0, d.advance(600));
        Check.is("38 all of them", 20, d.clearedTotal());
    }

    private static void longestAdvance() {
        SnowDispatcher d = new SnowDispatcher();
        Check.is("10 one minute", 0, d.advance(1));
        Check.is("34 one minute", 1, d.time());
        Check.is("10 600 minutes", 0, d.advance(600));
        Check.is("34 601", 601, d.time());
        Check.is("10 599 minutes", 0, d.advance(599));
        Check.is("34 1200", 1200, d.time());
    }

    private static void streetsAsAdded() {
        SnowDispatcher d = Towns.full();
        Check.is("11 twelve", 12, d.streetCount());
        Check.is("12 and 13 the first", "0 1", d.lowerEnd(0) + " " + d.higherEnd(0));
        Check.is("12 and 13 the last", "1 6", d.lowerEnd(11) + " " + d.higherEnd(11));
        Check.is("14 the first and the last", "a c", d.streetClass(0) + " " + d.streetClass(11));
        Check.is("15 the last", 1, d.length(11));
        Check.is("16 the last", 0, d.depth(11));
        Check.is("18 the last", false, d.isSalted(11));
        Check.is("20 the last", 0, d.complaints(11));
        d.loadSalt(1);
        d.salt(11);
        Check.is("18 the last is salted", true, d.isSalted(11));
        Check.is("19 the last", 240, d.saltMinutes(11));
    }

    private static void leastAndGreatestDistance() {
        SnowDispatcher d = new SnowDispatcher();
        for (int junction = 0; junction < 7; junction++) {
            d.addStreet(junction + 1, junction, 'a', 9);
        }
        both(d, 0, 7, 63);
        both(d, 7, 0, 63);
        both(d, 3, 4, 9);
        both(d, 7, 7, 0);
        both(d, 0, 0, 0);
        d.addStreet(0, 7, 'a', 9);
        both(d, 0, 7, 9);
        both(d, 0, 4, 36);
        both(d, 1, 5, 36);
        d.addStreet(0, 4, 'a', 1);
        both(d, 0, 4, 1);
        both(d, 1, 5, 19);
        both(d, 7, 4, 10);
    }

    private static void both(SnowDispatcher d, int first, int second, int due) {
        Check.is("21 " + first + " to " + second, due, d.distance(first, second));
        Check.is("22 " + first + " to " + second, due, d.distanceByJunctions(first, second));
    }

    /** Ways of many streets are shorter here than those of few. */
    private static void distanceOfAllPairs() {
        SnowDispatcher d = new SnowDispatcher();
        int[] path = {3, 6, 0, 5, 1, 7};
        for (int place = 0; place + 1 < path.length; place++) {
            d.addStreet(path[place], path[place + 1], 'a', 1);
        }
        d.addStreet(3, 7, 'a', 9);
        d.addStreet(3, 0, 'a', 3);
        d.addStreet(6, 7, 'a', 6);
        d.addStreet(2, 4, 'a', 2);
        for (int first = 0; first < path.length; first++) {
            for (int second = 0; second < path.length; second++) {
                both(d, path[first], path[second], Math.abs(first - second));
            }
            int apart = path[first];
            Check.refuses("21 no path", NoSuchElementException.class, () -> d.distance(apart, 2));
            Check.refuses("22 no path", NoSuchElementException.class, () -> d.distanceByJunctions(4, apart));
        }
    }

    private static String ranking(SnowDispatcher d) {
        StringBuilder text = new StringBuilder();
        for (int rank = 0; rank < d.streetCount(); rank++) {
            text.append(rank == 0 ? "" : " ").append(d.streetByUrgency(rank));
        }
        return text.toString();
    }

    private static void urgencyByExcess() {
        Check.is("23 the deepest first", "0 1 2", ranking(Towns.snowy('b', 9, 8, 0)));
        SnowDispatcher d = new SnowDispatcher();
        d.addStreet(0, 1, 'c', 1);
        d.addStreet(1, 2, 'b', 1);
        d.addStreet(2, 3, 'a', 1);
        Check.is("23 below their limits", "2 1 0", ranking(d));
        Towns.snow(d, 12);
        Check.is("23 above their limits", "2 1 0", ranking(d));
        SnowDispatcher deep = Towns.snowy('c', 11);
        deep.addStreet(1, 2, 'a', 1);
        Check.is("23 4 below the limit before 5 below it", "0 1", ranking(deep));
        SnowDispatcher shallow = Towns.snowy('c', 9);
        shallow.addStreet(1, 2, 'a', 1);
        Check.is("23 6 below the limit after 5 below it", "1 0", ranking(shallow));
    }

    private static void urgencyByClass() {
        SnowDispatcher d = Towns.snowy('c', 10);
        d.addStreet(1, 2, 'b', 1);
        Towns.snow(d, 5);
        d.addStreet(2, 3, 'a', 1);
        Towns.snow(d, 7);
        // Depths 22, 12 and 7 with limits 15, 10 and 5: 7, 2 and 2 above them.
        Check.is("23 a before b", "0 2 1", ranking(d));
        SnowDispatcher even = Towns.snowy('c', 5);
        even.addStreet(1, 2, 'b', 1);
        Towns.snow(even, 5);
        even.addStreet(2, 3, 'a', 1);
        Check.is("23 a, b, c if all are as far below", "2 1 0", ranking(even));
        Towns.snow(even, 9);
        Check.is("23 a, b, c if all are as far above", "2 1 0", ranking(even));
    }

    private static void urgencyByIndex() {
        SnowDispatcher d = Towns.full();
        Check.is("23 twelve, by class and then by index", "0 3 6 9 1 4 7 10 2 5 8 11", ranking(d));
        Check.is("23 one street", "0", ranking(Towns.snowy('a', 3)));
        Check.is("23 all alike", "0 1 2 3", ranking(Towns.snowy('a', 3, 3, 3, 3)));
    }

    private static void complaintsOfEach() {
        SnowDispatcher d = new SnowDispatcher();
        d.addStreet(0, 1, 'a', 1);
        d.addStreet(1, 2, 'b', 1);
        d.addStreet(2, 3, 'c', 1);
        Towns.snow(d, 5);
        Check.is("20 none at the limit", "0 0 0 0", complaints(d));
        Towns.snow(d, 1);
        Check.is("20 one above it", "1 0 0 1", complaints(d));
        d.advance(59);
        Check.is("20 not within the hour", "1 0 0 1", complaints(d));
        d.advance(1);
        Check.is("20 one each hour", "2 0 0 2", complaints(d));
        d.advance(600);
        Check.is("20 ten in ten hours", "12 0 0 12", complaints(d));
        Towns.snow(d, 5);
        Check.is("20 about b", "13 1 0 14", complaints(d));
        Towns.snow(d, 5);
        Check.is("20 about c", "14 2 1 17", complaints(d));
        d.addPlough(0);
        d.order(0, 0);
        d.advance(4);
        Check.is("20 those so far stay", "14 2 1 17", complaints(d));
        d.advance(60);
        Check.is("20 none about a cleared one", "14 3 2 19", complaints(d));
    }

    private static String complaints(SnowDispatcher d) {
        return d.complaints(0) + " " + d.complaints(1) + " " + d.complaints(2) + " " + d.complaintTotal();
    }

    private static void ploughsAtWork() {
        SnowDispatcher d = Towns.smallWithPlough();
        d.addPlough(7);
        d.order(1, 2);
        Check.is("25 to 29 ordered", "false 7 0 1", plough1(d));
        d.advance(1);
        Check.is("25 to 29 begun", "true 6 3 0", plough1(d));
        Check.is("27", 2, d.currentStreet(1));
        d.advance(2);
        Check.is("25 to 29 one minute left", "true 6 1 0", plough1(d));
        d.order(1, 2);
        d.order(1, 2);
        Check.is("25 to 29 ordered while busy", "true 6 1 2", plough1(d));
        d.advance(1);
        Check.is("25 to 29 carried out", "false 6 0 2", plough1(d));
        d.advance(1);
        Check.is("25 to 29 the next", "true 7 3 1", plough1(d));
        Check.is("25 to 29 the other", "false 0 0 0",
                d.isBusy(0) + " " + d.junction(0) + " " + d.busyMinutes(0) + " " + d.queueLength(0));
    }

    private static String plough1(SnowDispatcher d) {
        return d.isBusy(1) + " " + d.junction(1) + " " + d.busyMinutes(1) + " " + d.queueLength(1);
    }

    private static void greatestOrder() {
        SnowDispatcher d = new SnowDispatcher();
        for (int junction = 0; junction < 7; junction++) {
            d.addStreet(junction, junction + 1, 'a', 9);
        }
        d.addPlough(0);
        Check.is("31 least of length 9", 36, d.orderMinutes(0, 0));
        Check.is("31 greatest", 2 * 54 + 36, d.orderMinutes(0, 6));
        d.order(0, 6);
        d.advance(1);
        Check.is("28 greatest", 2 * 54 + 36 - 1, d.busyMinutes(0));
        Check.is("31 of a busy one, from where it will be", 36, d.orderMinutes(0, 6));
        Check.is("31 of a busy one, from where it will be", 2 * 54 + 36, d.orderMinutes(0, 0));
        d.advance(143);
        Check.is("31 of an idle one, from where it is", 2 * 54 + 36, d.orderMinutes(0, 0));
    }

    private static void totals() {
        SnowDispatcher d = Towns.snowy('a', 200, 14);
        d.addPlough(0);
        d.addPlough(5);
        d.order(0, 0);
        d.order(0, 1);
        d.order(1, 1);
        Check.is("38 to 40 before", "0 0 0", d.clearedTotal() + " " + d.ploughedTotal() + " " + d.failedOrders());
        d.advance(1);
        Check.is("38 to 40 one failed", "0 0 1", d.clearedTotal() + " " + d.ploughedTotal() + " " + d.failedOrders());
        d.advance(3);
        Check.is("38 to 40 200 centimetres", "1 200 1",
                d.clearedTotal() + " " + d.ploughedTotal() + " " + d.failedOrders());
        d.advance(4);
        Check.is("38 to 40 14 more", "2 214 1", d.clearedTotal() + " " + d.ploughedTotal() + " " + d.failedOrders());
        d.order(0, 1);
        d.advance(4);
        Check.is("38 to 40 none of a street without snow", "3 214 1",
                d.clearedTotal() + " " + d.ploughedTotal() + " " + d.failedOrders());
    }

    private static void mean() {
        Check.is("42 one street without snow", 0.0, Towns.snowy('a', 0).meanDepth());
        Check.is("42 one street", 7.0, Towns.snowy('a', 7).meanDepth());
        Check.is("42 a half", 0.5, Towns.snowy('a', 1, 0).meanDepth());
        Check.is("42 a third", 1.0 / 3.0, Towns.snowy('a', 1, 0, 0).meanDepth());
        Check.is("42 a seventh", 22.0 / 7.0, Towns.snowy('a', 9, 8, 5, 0, 0, 0, 0).meanDepth());
        Check.is("42 all of 200", 200.0, Towns.snowy('a', 200, 200, 200).meanDepth());
        SnowDispatcher d = Towns.full();
        Towns.snow(d, 1);
        Check.is("42 twelve", 1.0, d.meanDepth());
    }

    private static void share() {
        SnowDispatcher d = Towns.full();
        d.loadSalt(12);
        Check.is("43 none", 0.0f, d.saltedShare());
        for (int salted = 1; salted <= 12; salted++) {
            d.salt(salted - 1);
            Check.is("43 " + salted + " of 12", (float) salted / 12.0f, d.saltedShare());
        }
        d.advance(239);
        Check.is("43 all for 239 minutes", 1.0f, d.saltedShare());
        d.advance(1);
        Check.is("43 none after 240", 0.0f, d.saltedShare());
        SnowDispatcher one = Towns.snowy('a', 0);
        Check.is("43 none of one", 0.0f, one.saltedShare());
        one.loadSalt(1);
        one.salt(0);
        Check.is("43 one of one", 1.0f, one.saltedShare());
    }

    private static void consistency() {
        Check.is("44 a new object", true, new SnowDispatcher().isConsistent());
        Check.is("44 without snow", true, Towns.snowy('a', 0).isConsistent());
        Check.is("44 depths 0 and 200", true, Towns.snowy('a', 200, 0).isConsistent());
        Check.is("44 all full", true, Twins.full().isConsistent());
        SnowDispatcher d = Twins.busy();
        d.advance(600);
        Check.is("44 many complaints", true, d.isConsistent());
        d.undo();
        Check.is("44 after an undo", true, d.isConsistent());
        d.restore();
        Check.is("44 after a restore", true, d.isConsistent());
    }

    private static void streetTexts() {
        Check.is("45 least", "0:0-1a0cm", Towns.streetText(Towns.snowy('a', 0), 0));
        Check.is("45 its length", 9, Towns.snowy('a', 0).renderStreet(0));
        Check.is("45 one digit", "0:0-1b9cm", Towns.streetText(Towns.snowy('b', 9), 0));
        Check.is("45 two digits", "0:0-1b10cm", Towns.streetText(Towns.snowy('b', 10), 0));
        Check.is("45 up to 99", "0:0-1b99cm", Towns.streetText(Towns.snowy('b', 99), 0));
        Check.is("45 three digits", "0:0-1c100cm", Towns.streetText(Towns.snowy('c', 100), 0));
        SnowDispatcher d = Towns.full();
        Towns.snow(d, 200);
        d.loadSalt(1);
        d.salt(11);
        Check.is("45 greatest", "11:1-6c200cm*", Towns.streetText(d, 11));
        Check.is("45 its length", 13, d.renderStreet(11));
        d.advance(239);
        Check.is("45 salted for one more minute", "11:1-6c191cm*", Towns.streetText(d, 11));
        d.advance(1);
        Check.is("45 no longer salted", "11:1-6c191cm", Towns.streetText(d, 11));
        Check.is("45 index 9", "9:1-4a200cm", Towns.streetText(d, 9));
        Check.is("45 index 10", "10:1-5b200cm", Towns.streetText(d, 10));
    }

    private static void queueTexts() {
        SnowDispatcher d = Towns.full();
        d.addPlough(0);
        Check.is("46 empty", 0, d.renderQueue(0));
        d.order(0, 0);
        Check.is("46 one order, one digit", 1, d.renderQueue(0));
        Check.is("46 one order, one digit", "0", Towns.queueText(d, 0));
        d.cancelOrder(0);
        d.order(0, 10);
        Check.is("46 one order, two digits", "10", Towns.queueText(d, 0));
        for (int order = 0; order < 4; order++) {
            d.order(0, order % 2 == 0 ? 11 : 9);
        }
        Check.is("46 five orders", "10,11,9,11,9", Towns.queueText(d, 0));
        d.cancelOrder(0);
        d.order(0, 11);
        Check.is("46 a length", 13, d.renderQueue(0));
        d.advance(1);
        Check.is("46 without the one in work", "11,9,11,11", Towns.queueText(d, 0));
    }

    private static void outputIsReplaced() {
        SnowDispatcher d = Towns.full();
        d.addPlough(0);
        d.order(0, 7);
        d.renderStreet(11);
        Check.is("47 the first", '1', d.outputAt(0));
        Check.is("47 the last", 'm', d.outputAt(d.renderStreet(11) - 1));
        Check.is("46 replaces a longer text", "7", Towns.queueText(d, 0));
        Check.refuses("46 nothing is left of it", IndexOutOfBoundsException.class, () -> d.outputAt(1));
        Check.is("45 replaces a shorter text", "0:0-1a0cm", Towns.streetText(d, 0));
        Towns.snow(d, 9);
        Check.is("47 a text stays as it was", "0:0-1a0cm", Towns.text(d, 9));
        Check.is("46 the order is in work", 0, d.renderQueue(0));
        Check.refuses("46 an empty text", IndexOutOfBoundsException.class, () -> d.outputAt(0));
    }
}
