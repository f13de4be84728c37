import java.util.NoSuchElementException;

/** If several exceptions apply, the one that is listed first is thrown, and nothing is changed. */
public final class FirstListedTest {
    private static final Class<IndexOutOfBoundsException> INDEX = IndexOutOfBoundsException.class;
    private static final Class<IllegalArgumentException> ARGUMENT = IllegalArgumentException.class;
    private static final Class<UnsupportedOperationException> UNSUPPORTED = UnsupportedOperationException.class;
    private static final Class<NoSuchElementException> ELEMENT = NoSuchElementException.class;

    public static void main(String[] args) {
        addStreet();
        addPlough();
        order();
        saltAndStore();
        asking();
        type();
        scripts();
        Check.end();
    }

    private static void addStreet() {
        Twins.refuses("2 no junction, twice the same", INDEX, Twins::busy, d -> d.addStreet(8, 8, 'a', 1));
        Twins.refuses("2 no junction, no class", INDEX, Twins::busy, d -> d.addStreet(8, 0, 'd', 1));
        Twins.refuses("2 no junction, no length", INDEX, Twins::busy, d -> d.addStreet(0, -1, 'a', 0));
        Twins.refuses("2 no junction, 12 streets", INDEX, Twins::full, d -> d.addStreet(0, 8, 'a', 1));
        Twins.refuses("2 no junction, all else", INDEX, Twins::full, d -> d.addStreet(-1, -1, 'x', 10));
        Twins.refuses("2 twice the same, 12 streets", ARGUMENT, Twins::full, d -> d.addStreet(3, 3, 'a', 1));
        Twins.refuses("2 no class, 12 streets", ARGUMENT, Twins::full, d -> d.addStreet(6, 7, 'd', 1));
        Twins.refuses("2 no length, 12 streets", ARGUMENT, Twins::full, d -> d.addStreet(6, 7, 'a', 10));
        Twins.refuses("2 no class, connected", ARGUMENT, Twins::busy, d -> d.addStreet(0, 1, '`', 3));
        Twins.refuses("2 no length, connected", ARGUMENT, Twins::busy, d -> d.addStreet(1, 0, 'b', 0));
        Twins.refuses("2 no length, connected, 12 streets", ARGUMENT, Twins::full, d -> d.addStreet(1, 0, 'b', 0));
    }

    private static void addPlough() {
        Twins.refuses("3 no junction, 4 ploughs", INDEX, Twins::full, d -> d.addPlough(8));
        Twins.refuses("3 no junction, 4 ploughs", INDEX, Twins::full, d -> d.addPlough(-1));
    }

    private static void order() {
        Twins.refuses("4 no street, 5 orders", INDEX, Twins::busy, d -> d.order(0, 3));
        Twins.refuses("4 no street, 5 orders", INDEX, Twins::busy, d -> d.order(0, -1));
        Twins.refuses("4 no street, 5 orders, all full", INDEX, Twins::full, d -> d.order(3, 12));
    }

    private static void saltAndStore() {
        Twins.refuses("6 no street, an empty store", INDEX, Towns::small, d -> d.salt(3));
        Twins.refuses("6 salted, too few units", UNSUPPORTED, Twins::busy, d -> d.salt(0));
        Twins.refuses("7 no such load, more than 500", ARGUMENT, Twins::full, d -> d.loadSalt(201));
        Twins.refuses("7 no such load, more than 500", ARGUMENT, Twins::full, d -> d.loadSalt(Integer.MAX_VALUE));
        Twins.refuses("7 no load, a full store", ARGUMENT, Twins::full, d -> d.loadSalt(0));
    }

    private static void asking() {
        Twins.refuses("19 no street, not salted", INDEX, Twins::busy, d -> d.saltMinutes(3));
        Twins.refuses("21 no junction, no path", INDEX, SnowDispatcher::new, d -> d.distance(0, 8));
        Twins.refuses("21 no junction, no path", INDEX, SnowDispatcher::new, d -> d.distance(-1, 0));
        Twins.refuses("22 no junction, no path", INDEX, SnowDispatcher::new, d -> d.distanceByJunctions(0, 8));
        Twins.refuses("22 no junction, no path", INDEX, SnowDispatcher::new, d -> d.distanceByJunctions(-1, 0));
        Twins.refuses("27 no plough, not busy", INDEX, SnowDispatcher::new, d -> d.currentStreet(0));
        Twins.refuses("30 no plough, no position", INDEX, Twins::busy, d -> d.queuedStreet(2, 5));
        Twins.refuses("30 no plough, no position", INDEX, Twins::busy, d -> d.queuedStreet(-1, -1));
        Twins.refuses("31 no plough, no path", INDEX, Twins::busy, d -> d.orderMinutes(2, 2));
        Twins.refuses("31 no street, no path", INDEX, Twins::busy, d -> d.orderMinutes(0, 3));
        Twins.refuses("32 no street, not cleared", INDEX, Towns::small, d -> d.minutesUntilCleared(3));
        Twins.refuses("33 no street, no minutes", INDEX, Twins::busy, d -> d.depthAfter(3, -1));
        Twins.refuses("33 no street, no minutes", INDEX, Twins::busy, d -> d.depthAfter(-1, 601));
        Twins.refuses("5 no plough, no orders", INDEX, Towns::small, d -> d.cancelOrder(0));
        Twins.refuses("52 nothing to undo", ELEMENT, SnowDispatcher::new, d -> d.undo());
    }

    private static void type() {
        Twins.refuses("48 no such character, 60 characters", ARGUMENT, Twins::fullBuffer, d -> d.type((char) 31));
        Twins.refuses("48 no such character, 60 characters", ARGUMENT, Twins::fullBuffer, d -> d.type((char) 127));
    }

    /** A command that would fail stands before the place where the form is wrong: nothing is tried at all. */
    private static void scripts() {
        SnowDispatcher d = Twins.busyWithoutText();
        String before = Twins.state(d);
        Towns.type(d, "plough 9;salt 0;wind");
        Check.refuses("49 wrong form before failed command", ARGUMENT, () -> d.runScript());
        Check.is("50 the wrong form", 20, d.errorPosition());
        Check.is("51 no command failed", 1, d.failedCommand());
        Check.is("49 nothing changed", before, Twins.state(d));
    }
}
