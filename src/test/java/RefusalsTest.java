import java.util.NoSuchElementException;

/** Each 'Throws' sentence of the document: the first values that are refused, on both sides, and nothing changed. */
public final class RefusalsTest {
    private static final Class<IndexOutOfBoundsException> INDEX = IndexOutOfBoundsException.class;
    private static final Class<IllegalArgumentException> ARGUMENT = IllegalArgumentException.class;
    private static final Class<IllegalStateException> STATE = IllegalStateException.class;
    private static final Class<NoSuchElementException> ELEMENT = NoSuchElementException.class;
    private static final Class<UnsupportedOperationException> UNSUPPORTED = UnsupportedOperationException.class;
    private static final Class<ArithmeticException> ARITHMETIC = ArithmeticException.class;

    private interface IntStep {
        Object take(SnowDispatcher d, int value);
    }

    public static void main(String[] args) {
        recipes();
        addStreetJunctions();
        addStreetArguments();
        addStreetState();
        addPlough();
        order();
        cancelOrder();
        salt();
        loadSalt();
        setSnowfallAndSetWind();
        advance();
        noSuchStreet();
        saltMinutes();
        distances();
        streetByUrgency();
        noSuchPlough();
        currentStreet();
        queuedStreet();
        orderMinutes();
        minutesUntilCleared();
        depthAfter();
        noStreets();
        rendering();
        outputAt();
        type();
        noScript();
        undo();
        restore();
        Check.end();
    }

    /** The numbers just outside of 0 to count - 1, and those farthest outside, are refused. */
    private static void outside(String what, int count, Class<? extends RuntimeException> due, Twins.Recipe recipe,
            IntStep step) {
        for (int bad : new int[] {-1, count, Integer.MIN_VALUE, Integer.MAX_VALUE}) {
            Twins.refuses(what + " " + bad, due, recipe, d -> step.take(d, bad));
        }
    }

    /** The dispatchers that bear the refused calls are as full, as busy and as empty as the tests below mean them. */
    private static void recipes() {
        SnowDispatcher busy = Twins.busy();
        Check.is("busy: plough 0", "true 5", busy.isBusy(0) + " " + busy.queueLength(0));
        Check.is("busy: plough 1", "false 0 1", busy.isBusy(1) + " " + busy.queueLength(1) + " " + busy.failedOrders());
        Check.is("busy: salt", "1 true false false",
                busy.saltStore() + " " + busy.isSalted(0) + " " + busy.isSalted(1) + " " + busy.isSalted(2));
        Check.is("busy: scripts", "4 1", busy.errorPosition() + " " + busy.failedCommand());
        Check.is("busy: typed", 7, busy.type(' '));
        Check.is("busy: undo", 7, busy.undo());
        Check.is("busy: snapshot", 3, busy.restore());
        SnowDispatcher full = Twins.full();
        Check.is("full: counts", "12 4 500", full.streetCount() + " " + full.ploughCount() + " " + full.saltStore());
        Check.is("full: plough 3", "true 5", full.isBusy(3) + " " + full.queueLength(3));
        Check.is("full: undo", 7, full.undo());
    }

    private static void addStreetJunctions() {
        outside("2 first junction", 8, INDEX, Twins::busy, (d, bad) -> d.addStreet(bad, 4, 'a', 1));
        outside("2 second junction", 8, INDEX, Twins::busy, (d, bad) -> d.addStreet(4, bad, 'a', 1));
        outside("2 both junctions", 8, INDEX, Twins::busy, (d, bad) -> d.addStreet(bad, bad, 'a', 1));
        Twins.refuses("2 one on each side", INDEX, Twins::busy, d -> d.addStreet(-1, 8, 'a', 1));
        outside("2 junction of the first street", 8, INDEX, SnowDispatcher::new,
                (d, bad) -> d.addStreet(0, bad, 'a', 1));
    }

    private static void addStreetArguments() {
        for (int junction = 0; junction <= 7; junction++) {
            int same = junction;
            Twins.refuses("2 the same junction " + same, ARGUMENT, Twins::busy, d -> d.addStreet(same, same, 'a', 1));
        }
        for (char bad : new char[] {'`', 'd', 'A', 'B', 'C', '1', 0, 0xffff}) {
            Twins.refuses("2 class of code " + (int) bad, ARGUMENT, Twins::busy, d -> d.addStreet(0, 7, bad, 1));
        }
        for (int bad : new int[] {0, 10, -1, Integer.MIN_VALUE, Integer.MAX_VALUE}) {
            Twins.refuses("2 length " + bad, ARGUMENT, Twins::busy, d -> d.addStreet(0, 7, 'c', bad));
        }
    }

    private static void addStreetState() {
        Twins.refuses("2 a thirteenth", STATE, Twins::full, d -> d.addStreet(6, 7, 'a', 1));
        Twins.refuses("2 a thirteenth that is there", STATE, Twins::full, d -> d.addStreet(0, 1, 'a', 1));
        Twins.refuses("2 connected", STATE, Twins::busy, d -> d.addStreet(0, 1, 'b', 3));
        Twins.refuses("2 connected, otherwise", STATE, Twins::busy, d -> d.addStreet(0, 1, 'a', 9));
        Twins.refuses("2 connected, turned round", STATE, Twins::busy, d -> d.addStreet(7, 6, 'c', 1));
    }

    private static void addPlough() {
        outside("3 junction", 8, INDEX, Twins::busy, (d, bad) -> d.addPlough(bad));
        outside("3 junction of the first plough", 8, INDEX, SnowDispatcher::new, (d, bad) -> d.addPlough(bad));
        Twins.refuses("3 a fifth", STATE, Twins::full, d -> d.addPlough(0));
        Twins.refuses("3 a fifth elsewhere", STATE, Twins::full, d -> d.addPlough(7));
    }

    private static void order() {
        outside("4 plough", 2, INDEX, Twins::busy, (d, bad) -> d.order(bad, 0));
        outside("4 plough of four", 4, INDEX, Twins::full, (d, bad) -> d.order(bad, 0));
        outside("4 street", 3, INDEX, Twins::busy, (d, bad) -> d.order(1, bad));
        outside("4 street of twelve", 12, INDEX, Twins::full, (d, bad) -> d.order(0, bad));
        outside("4 both", 2, INDEX, Twins::busy, (d, bad) -> d.order(bad, 3));
        outside("4 no ploughs", 0, INDEX, Towns::small, (d, bad) -> d.order(bad, 0));
        outside("4 no streets", 0, INDEX, RefusalsTest::onePlough, (d, bad) -> d.order(0, bad));
        Twins.refuses("4 a sixth order", STATE, Twins::busy, d -> d.order(0, 0));
        Twins.refuses("4 a sixth order, all full", STATE, Twins::full, d -> d.order(3, 11));
    }

    private static SnowDispatcher onePlough() {
        SnowDispatcher d = new SnowDispatcher();
        d.addPlough(0);
        return d;
    }

    private static void cancelOrder() {
        outside("5 plough", 2, INDEX, Twins::busy, (d, bad) -> d.cancelOrder(bad));
        outside("5 plough of four", 4, INDEX, Twins::full, (d, bad) -> d.cancelOrder(bad));
        outside("5 no ploughs", 0, INDEX, Towns::small, (d, bad) -> d.cancelOrder(bad));
        Twins.refuses("5 empty, after a failed order", ELEMENT, Twins::busy, d -> d.cancelOrder(1));
        Twins.refuses("5 empty at first", ELEMENT, Towns::smallWithPlough, d -> d.cancelOrder(0));
        Twins.refuses("5 empty, its only order in work", ELEMENT, () -> ordered(1), d -> d.cancelOrder(0));
        Twins.refuses("5 empty, its only order carried out", ELEMENT, () -> ordered(12), d -> d.cancelOrder(0));
        Twins.refuses("5 empty, its only order cancelled", ELEMENT, RefusalsTest::cancelled, d -> d.cancelOrder(0));
    }

    /** Some minutes after an order that takes 12. */
    private static SnowDispatcher ordered(int minutes) {
        SnowDispatcher d = Towns.smallWithPlough();
        d.order(0, 0);
        d.advance(minutes);
        return d;
    }

    private static SnowDispatcher cancelled() {
        SnowDispatcher d = Towns.smallWithPlough();
        d.order(0, 0);
        d.cancelOrder(0);
        return d;
    }

    private static void salt() {
        outside("6 street", 3, INDEX, Twins::busy, (d, bad) -> d.salt(bad));
        outside("6 street of twelve", 12, INDEX, Twins::full, (d, bad) -> d.salt(bad));
        outside("6 no streets", 0, INDEX, SnowDispatcher::new, (d, bad) -> d.salt(bad));
        for (int minutes : new int[] {1, 60, 238, 239}) {
            Twins.refuses("6 salted " + minutes + " minutes ago", UNSUPPORTED, () -> salted(minutes), d -> d.salt(0));
        }
        Twins.refuses("6 salted just now", UNSUPPORTED, RefusalsTest::saltedNow, d -> d.salt(0));
        Twins.refuses("6 one unit too few", STATE, Twins::busy, d -> d.salt(1));
        Twins.refuses("6 an empty store", STATE, Towns::small, d -> d.salt(2));
        Twins.refuses("6 too few to salt it again", STATE, RefusalsTest::saltedWithTheLast, d -> d.salt(0));
    }

    private static SnowDispatcher saltedNow() {
        SnowDispatcher d = Towns.small();
        d.loadSalt(20);
        d.salt(0);
        return d;
    }

    private static SnowDispatcher salted(int minutes) {
        SnowDispatcher d = saltedNow();
        d.advance(minutes);
        return d;
    }

    private static SnowDispatcher saltedWithTheLast() {
        SnowDispatcher d = Towns.small();
        d.loadSalt(5);
        d.salt(0);
        d.advance(240);
        return d;
    }

    private static void loadSalt() {
        for (int bad : new int[] {0, 201, -1, 500, Integer.MIN_VALUE, Integer.MAX_VALUE}) {
            Twins.refuses("7 units " + bad, ARGUMENT, Twins::busy, d -> d.loadSalt(bad));
        }
        Twins.refuses("7 one more than full", UNSUPPORTED, Twins::full, d -> d.loadSalt(1));
        Twins.refuses("7 200 more than full", UNSUPPORTED, Twins::full, d -> d.loadSalt(200));
        Twins.refuses("7 501", UNSUPPORTED, () -> stored(200, 101), d -> d.loadSalt(200));
        Twins.refuses("7 501 by two units", UNSUPPORTED, () -> stored(200, 200, 99), d -> d.loadSalt(2));
    }

    private static SnowDispatcher stored(int... loads) {
        SnowDispatcher d = new SnowDispatcher();
        for (int units : loads) {
            d.loadSalt(units);
        }
        return d;
    }

    private static void setSnowfallAndSetWind() {
        outside("8 rate", 10, ARGUMENT, Twins::busy, (d, bad) -> d.setSnowfall(bad));
        outside("9 force", 10, ARGUMENT, Twins::busy, (d, bad) -> d.setWind(bad));
    }

    private static void advance() {
        for (int bad : new int[] {0, 601, -1, Integer.MIN_VALUE, Integer.MAX_VALUE}) {
            Twins.refuses("10 minutes " + bad, ARGUMENT, Twins::busy, d -> d.advance(bad));
        }
    }

    private static void noSuchStreet() {
        streets(0, SnowDispatcher::new);
        streets(3, Twins::busy);
        streets(12, Twins::full);
    }

    private static void streets(int count, Twins.Recipe recipe) {
        outside("12 street", count, INDEX, recipe, (d, bad) -> d.lowerEnd(bad));
        outside("13 street", count, INDEX, recipe, (d, bad) -> d.higherEnd(bad));
        outside("14 street", count, INDEX, recipe, (d, bad) -> d.streetClass(bad));
        outside("15 street", count, INDEX, recipe, (d, bad) -> d.length(bad));
        outside("16 street", count, INDEX, recipe, (d, bad) -> d.depth(bad));
        outside("17 street", count, INDEX, recipe, (d, bad) -> d.isOverdue(bad));
        outside("18 street", count, INDEX, recipe, (d, bad) -> d.isSalted(bad));
        outside("19 street", count, INDEX, recipe, (d, bad) -> d.saltMinutes(bad));
        outside("20 street", count, INDEX, recipe, (d, bad) -> d.complaints(bad));
        outside("32 street", count, INDEX, recipe, (d, bad) -> d.minutesUntilCleared(bad));
        outside("33 street", count, INDEX, recipe, (d, bad) -> d.depthAfter(bad, 0));
        outside("33 street, later", count, INDEX, recipe, (d, bad) -> d.depthAfter(bad, 600));
        outside("45 street", count, INDEX, recipe, (d, bad) -> d.renderStreet(bad));
    }

    private static void saltMinutes() {
        Twins.refuses("19 never salted", ELEMENT, Twins::busy, d -> d.saltMinutes(1));
        Twins.refuses("19 never salted, at time 0", ELEMENT, Towns::small, d -> d.saltMinutes(0));
        Twins.refuses("19 salted 240 minutes ago", ELEMENT, () -> salted(240), d -> d.saltMinutes(0));
        Twins.refuses("19 salted 241 minutes ago", ELEMENT, () -> salted(241), d -> d.saltMinutes(0));
        Twins.keeps("19 salted 239 minutes ago", 1, () -> salted(239), d -> d.saltMinutes(0));
    }

    private static void distances() {
        outside("21 first", 8, INDEX, Twins::busy, (d, bad) -> d.distance(bad, 0));
        outside("21 second", 8, INDEX, Twins::busy, (d, bad) -> d.distance(0, bad));
        outside("21 both the same", 8, INDEX, Twins::busy, (d, bad) -> d.distance(bad, bad));
        outside("22 first", 8, INDEX, Twins::busy, (d, bad) -> d.distanceByJunctions(bad, 0));
        outside("22 second", 8, INDEX, Twins::busy, (d, bad) -> d.distanceByJunctions(0, bad));
        outside("22 both the same", 8, INDEX, Twins::busy, (d, bad) -> d.distanceByJunctions(bad, bad));
        Twins.refuses("21 no path", ELEMENT, Twins::busy, d -> d.distance(0, 7));
        Twins.refuses("21 no path back", ELEMENT, Twins::busy, d -> d.distance(7, 0));
        Twins.refuses("21 no street at it", ELEMENT, Twins::busy, d -> d.distance(4, 0));
        Twins.refuses("21 no street at all", ELEMENT, SnowDispatcher::new, d -> d.distance(0, 7));
        Twins.refuses("22 no path", ELEMENT, Twins::busy, d -> d.distanceByJunctions(0, 7));
        Twins.refuses("22 no path back", ELEMENT, Twins::busy, d -> d.distanceByJunctions(7, 0));
        Twins.refuses("22 no street at it", ELEMENT, Twins::busy, d -> d.distanceByJunctions(4, 0));
        Twins.refuses("22 no street at all", ELEMENT, SnowDispatcher::new, d -> d.distanceByJunctions(0, 7));
    }

    private static void streetByUrgency() {
        outside("23 rank", 3, ELEMENT, Twins::busy, (d, bad) -> d.streetByUrgency(bad));
        outside("23 rank of twelve", 12, ELEMENT, Twins::full, (d, bad) -> d.streetByUrgency(bad));
        outside("23 no streets", 0, ELEMENT, SnowDispatcher::new, (d, bad) -> d.streetByUrgency(bad));
    }

    private static void noSuchPlough() {
        ploughs(0, Towns::small);
        ploughs(2, Twins::busy);
        ploughs(4, Twins::full);
    }

    private static void ploughs(int count, Twins.Recipe recipe) {
        outside("25 plough", count, INDEX, recipe, (d, bad) -> d.isBusy(bad));
        outside("26 plough", count, INDEX, recipe, (d, bad) -> d.junction(bad));
        outside("27 plough", count, INDEX, recipe, (d, bad) -> d.currentStreet(bad));
        outside("28 plough", count, INDEX, recipe, (d, bad) -> d.busyMinutes(bad));
        outside("29 plough", count, INDEX, recipe, (d, bad) -> d.queueLength(bad));
        outside("30 plough", count, INDEX, recipe, (d, bad) -> d.queuedStreet(bad, 0));
        outside("31 plough", count, INDEX, recipe, (d, bad) -> d.orderMinutes(bad, 0));
        outside("46 plough", count, INDEX, recipe, (d, bad) -> d.renderQueue(bad));
    }

    private static void currentStreet() {
        Twins.refuses("27 idle, after a failed order", ELEMENT, Twins::busy, d -> d.currentStreet(1));
        Twins.refuses("27 idle at first", ELEMENT, Towns::smallWithPlough, d -> d.currentStreet(0));
        Twins.refuses("27 idle after its order", ELEMENT, () -> ordered(12), d -> d.currentStreet(0));
        Twins.keeps("27 busy for the last minute", 0, () -> ordered(11), d -> d.currentStreet(0));
        Twins.refuses("27 idle with an order", ELEMENT, RefusalsTest::onlyOrdered, d -> d.currentStreet(0));
    }

    private static SnowDispatcher onlyOrdered() {
        SnowDispatcher d = Towns.smallWithPlough();
        d.order(0, 0);
        return d;
    }

    private static void queuedStreet() {
        outside("30 position of five", 5, ELEMENT, Twins::busy, (d, bad) -> d.queuedStreet(0, bad));
        outside("30 position of none", 0, ELEMENT, Twins::busy, (d, bad) -> d.queuedStreet(1, bad));
        outside("30 position of one", 1, ELEMENT, RefusalsTest::onlyOrdered, (d, bad) -> d.queuedStreet(0, bad));
        outside("30 position of one that is in work", 0, ELEMENT, () -> ordered(1), (d, bad) -> d.queuedStreet(0, bad));
        outside("30 position, the last plough", 5, ELEMENT, Twins::full, (d, bad) -> d.queuedStreet(3, bad));
    }

    private static void orderMinutes() {
        outside("31 street", 3, INDEX, Twins::busy, (d, bad) -> d.orderMinutes(0, bad));
        outside("31 street of twelve", 12, INDEX, Twins::full, (d, bad) -> d.orderMinutes(0, bad));
        outside("31 street of none", 0, INDEX, RefusalsTest::onePlough, (d, bad) -> d.orderMinutes(0, bad));
        outside("31 both", 2, INDEX, Twins::busy, (d, bad) -> d.orderMinutes(bad, bad));
        Twins.refuses("31 no path", ELEMENT, Twins::busy, d -> d.orderMinutes(0, 2));
        Twins.refuses("31 no path for an idle one", ELEMENT, Twins::busy, d -> d.orderMinutes(1, 2));
    }

    private static void minutesUntilCleared() {
        Twins.refuses("32 never ordered", ELEMENT, Towns::smallWithPlough, d -> d.minutesUntilCleared(0));
        Twins.refuses("32 no ploughs", ELEMENT, Towns::small, d -> d.minutesUntilCleared(0));
        Twins.refuses("32 cleared before", ELEMENT, () -> ordered(12), d -> d.minutesUntilCleared(0));
        Twins.refuses("32 the order will fail", ELEMENT, Twins::busy, d -> d.minutesUntilCleared(2));
    }

    private static void depthAfter() {
        for (int bad : new int[] {-1, 601, Integer.MIN_VALUE, Integer.MAX_VALUE}) {
            Twins.refuses("33 minutes " + bad, ARGUMENT, Twins::busy, d -> d.depthAfter(2, bad));
            Twins.refuses("33 minutes, all full, " + bad, ARGUMENT, Twins::full, d -> d.depthAfter(11, bad));
        }
    }

    private static void noStreets() {
        Twins.refuses("42 no streets", ARITHMETIC, SnowDispatcher::new, d -> d.meanDepth());
        Twins.refuses("43 no streets", ARITHMETIC, SnowDispatcher::new, d -> d.saltedShare());
        Twins.refuses("42 no streets left", ARITHMETIC, RefusalsTest::streetUndone, d -> d.meanDepth());
        Twins.refuses("43 no streets left", ARITHMETIC, RefusalsTest::streetUndone, d -> d.saltedShare());
        Twins.refuses("42 only a plough", ARITHMETIC, RefusalsTest::onePlough, d -> d.meanDepth());
        Twins.refuses("43 only a plough", ARITHMETIC, RefusalsTest::onePlough, d -> d.saltedShare());
    }

    private static SnowDispatcher streetUndone() {
        SnowDispatcher d = new SnowDispatcher();
        d.addStreet(0, 1, 'a', 1);
        d.undo();
        return d;
    }

    /** A refused rendering leaves the output text as it was, be it empty or not. */
    private static void rendering() {
        Twins.refuses("45 the text stays empty", INDEX, Towns::small, d -> d.renderStreet(3));
        Twins.refuses("46 the text stays empty", INDEX, Towns::small, d -> d.renderQueue(0));
        Twins.refuses("45 the text of a queue stays", INDEX, Twins::full, d -> d.renderStreet(12));
        Twins.refuses("46 the text of a street stays", INDEX, Twins::busy, d -> d.renderQueue(2));
    }

    private static void outputAt() {
        outside("47 nothing rendered", 0, INDEX, Towns::small, (d, bad) -> d.outputAt(bad));
        outside("47 a street", "1:1-2a18cm".length(), INDEX, Twins::busy, (d, bad) -> d.outputAt(bad));
        Twins.keeps("47 its last character", 'm', Twins::busy, d -> d.outputAt("1:1-2a18cm".length() - 1));
        outside("47 a queue", "7,8,9,10,11".length(), INDEX, Twins::full, (d, bad) -> d.outputAt(bad));
        Twins.keeps("47 the last of a queue", '1', Twins::full, d -> d.outputAt("7,8,9,10,11".length() - 1));
        outside("47 an empty queue", 0, INDEX, RefusalsTest::emptyText, (d, bad) -> d.outputAt(bad));
    }

    private static SnowDispatcher emptyText() {
        SnowDispatcher d = Twins.busy();
        d.renderQueue(1);
        return d;
    }

    private static void type() {
        for (char bad : new char[] {31, 127, 0, '\n', '\t', 128, 160, 255, 256, 0x2000, 0xffff}) {
            Twins.refuses("48 code " + (int) bad, ARGUMENT, Twins::busy, d -> d.type(bad));
        }
        for (char any : new char[] {32, ' ', '1', ';', '~', 126}) {
            Twins.refuses("48 a 61st character", STATE, Twins::fullBuffer, d -> d.type(any));
        }
    }

    private static void noScript() {
        Twins.refuses("50 no script", ELEMENT, Towns::small, d -> d.errorPosition());
        Twins.refuses("51 no script", ELEMENT, Towns::small, d -> d.failedCommand());
        Twins.refuses("50 only one that ran", ELEMENT, () -> after("snow 1"), d -> d.errorPosition());
        Twins.refuses("51 only one that ran", ELEMENT, () -> after("snow 1"), d -> d.failedCommand());
        Twins.refuses("50 only one that failed", ELEMENT, () -> after("salt 9"), d -> d.errorPosition());
        Twins.refuses("51 only one of a wrong form", ELEMENT, () -> after("salt"), d -> d.failedCommand());
        Twins.refuses("50 only typed", ELEMENT, RefusalsTest::onlyTyped, d -> d.errorPosition());
        Twins.refuses("51 only typed", ELEMENT, RefusalsTest::onlyTyped, d -> d.failedCommand());
    }

    private static SnowDispatcher after(String script) {
        SnowDispatcher d = Towns.small();
        Towns.run(d, script);
        return d;
    }

    private static SnowDispatcher onlyTyped() {
        SnowDispatcher d = Towns.small();
        Towns.type(d, "salt 9;x");
        return d;
    }

    private static void undo() {
        Twins.refuses("52 a new object", ELEMENT, SnowDispatcher::new, d -> d.undo());
        Twins.refuses("52 all undone", ELEMENT, RefusalsTest::streetUndone, d -> d.undo());
        Twins.refuses("52 eight undone", ELEMENT, RefusalsTest::eightUndone, d -> d.undo());
        Twins.refuses("52 after a restore", ELEMENT, RefusalsTest::restored, d -> d.undo());
        Twins.refuses("52 only asked", ELEMENT, RefusalsTest::onlyAsked, d -> d.undo());
    }

    private static SnowDispatcher eightUndone() {
        SnowDispatcher d = Twins.busy();
        for (int change = 0; change < 8; change++) {
            d.undo();
        }
        return d;
    }

    private static SnowDispatcher restored() {
        SnowDispatcher d = Twins.busy();
        d.restore();
        return d;
    }

    private static SnowDispatcher onlyAsked() {
        SnowDispatcher d = new SnowDispatcher();
        d.save();
        d.type('x');
        d.time();
        d.isConsistent();
        return d;
    }

    private static void restore() {
        Twins.refuses("54 a new object", STATE, SnowDispatcher::new, d -> d.restore());
        Twins.refuses("54 no snapshot, and much to undo", STATE, Twins::full, d -> d.restore());
    }
}
