import java.util.NoSuchElementException;

/** Promises 52 to 54: undo and the snapshot. */
public final class UndoTest {
    private static final Class<NoSuchElementException> ELEMENT = NoSuchElementException.class;
    private static final Class<IllegalStateException> STATE = IllegalStateException.class;

    public static void main(String[] args) {
        promise52();
        promise52Eight();
        promise52Refused();
        promise52Branches();
        promises53And54();
        everythingIsCovered();
        eachKind();
        Check.end();
    }

    private static void promise52() {
        SnowDispatcher d = new SnowDispatcher();
        Check.refuses("52 nothing", ELEMENT, () -> d.undo());
        d.addStreet(0, 1, 'a', 2);
        d.addPlough(0);
        d.order(0, 0);
        d.order(0, 0);
        d.cancelOrder(0);
        d.loadSalt(50);
        d.salt(0);
        d.advance(10);
        Check.is("52 advance", 7, d.undo());
        Check.is("52 advance", "0 0 false", d.time() + " " + d.clearedTotal() + " " + d.isBusy(0));
        Check.is("52 salt", 6, d.undo());
        Check.is("52 salt", "50 false", d.saltStore() + " " + d.isSalted(0));
        Check.is("52 loadSalt", 5, d.undo());
        Check.is("52 loadSalt", 0, d.saltStore());
        Check.is("52 cancelOrder", 4, d.undo());
        Check.is("52 cancelOrder", "0,0", Towns.queueText(d, 0));
        Check.is("52 order", 3, d.undo());
        Check.is("52 order", "0", Towns.queueText(d, 0));
        Check.is("52 order", 2, d.undo());
        Check.is("52 addPlough", 1, d.undo());
        Check.is("52 addPlough", 0, d.ploughCount());
        Check.is("52 addStreet", 0, d.undo());
        Check.is("52 addStreet", 0, d.streetCount());
        Check.refuses("52 nothing left", ELEMENT, () -> d.undo());
        Check.is("2 added anew", 0, d.addStreet(2, 3, 'c', 1));
        Check.is("2 added anew", "0:2-3c0cm", Towns.streetText(d, 0));
    }

    private static void promise52Eight() {
        SnowDispatcher d = new SnowDispatcher();
        for (int change = 1; change <= 30; change++) {
            d.advance(change);
        }
        int time = 30 * 31 / 2;
        for (int left = 7; left >= 0; left--) {
            Check.is("52 left", left, d.undo());
            time -= 23 + left;
            Check.is("52 time", time, d.time());
        }
        Check.refuses("52 a ninth", ELEMENT, () -> d.undo());
        Check.is("52 the ninth stays", 22 * 23 / 2, d.time());
    }

    private static void promise52Refused() {
        SnowDispatcher d = new SnowDispatcher();
        for (int rate = 1; rate <= 9; rate++) {
            d.setSnowfall(rate);
        }
        Check.is("8 the same rate is a change", 9, d.setSnowfall(9));
        Check.refuses("8", IllegalArgumentException.class, () -> d.setSnowfall(10));
        Check.refuses("9", IllegalArgumentException.class, () -> d.setWind(10));
        Check.refuses("10", IllegalArgumentException.class, () -> d.advance(0));
        Check.refuses("7", IllegalArgumentException.class, () -> d.loadSalt(0));
        Check.refuses("6", IndexOutOfBoundsException.class, () -> d.salt(0));
        Check.refuses("5", IndexOutOfBoundsException.class, () -> d.cancelOrder(0));
        Check.refuses("4", IndexOutOfBoundsException.class, () -> d.order(0, 0));
        Check.refuses("3", IndexOutOfBoundsException.class, () -> d.addPlough(8));
        Check.is("52 the same rate", 7, d.undo());
        Check.is("52 the same rate", 9, d.snowfall());
        for (int rate = 8; rate >= 2; rate--) {
            d.undo();
            Check.is("52 rate", rate, d.snowfall());
        }
        Check.refuses("52 nothing left", ELEMENT, () -> d.undo());
    }

    private static void promise52Branches() {
        SnowDispatcher d = new SnowDispatcher();
        for (int force = 1; force <= 9; force++) {
            d.setWind(force);
        }
        Check.is("52 first", 7, d.undo());
        Check.is("52 second", 6, d.undo());
        Check.is("9 after an undo", 7, d.setWind(0));
        Check.is("52 the new one", 6, d.undo());
        Check.is("37", 7, d.wind());
        for (int left = 5; left >= 0; left--) {
            Check.is("52 left", left, d.undo());
        }
        Check.is("37 the oldest", 1, d.wind());
        Check.refuses("52 nothing left", ELEMENT, () -> d.undo());
    }

    private static void promises53And54() {
        SnowDispatcher d = Towns.smallWithPlough();
        Check.refuses("54 no snapshot", STATE, () -> d.restore());
        Check.is("52 a refused restore keeps the changes", 3, d.undo());
        Check.is("53", 3, d.save());
        d.addStreet(2, 3, 'a', 1);
        d.setSnowfall(5);
        d.advance(60);
        Check.is("52 across a save", 5, d.undo());
        Check.is("54", 3, d.restore());
        Check.is("54 state", "3 0 0", d.streetCount() + " " + d.snowfall() + " " + d.time());
        Check.refuses("54 nothing to undo", ELEMENT, () -> d.undo());
        d.setWind(3);
        Check.is("54 the snapshot is kept", 3, d.restore());
        Check.is("37", 0, d.wind());
        d.setWind(4);
        d.addStreet(3, 4, 'a', 1);
        Check.is("53 replaces", 4, d.save());
        Check.is("52 behind a snapshot", 1, d.undo());
        Check.is("52 behind a snapshot", 0, d.undo());
        Check.is("54 the newer one", 4, d.restore());
        Check.is("37 the newer one", 4, d.wind());
        SnowDispatcher empty = new SnowDispatcher();
        Check.is("53 empty", 0, empty.save());
        empty.addStreet(0, 1, 'a', 1);
        Check.is("54 empty", 0, empty.restore());
        Check.refuses("12 empty", IndexOutOfBoundsException.class, () -> empty.lowerEnd(0));
    }

    private static void everythingIsCovered() {
        SnowDispatcher undone = eventful();
        String before = Twins.state(undone);
        moreEvents(undone);
        Check.is("52 other state", false, before.equals(Twins.state(undone)));
        for (int i = 0; i < 4; i++) {
            undone.undo();
        }
        Check.is("52 the state", before, Twins.state(undone));
        SnowDispatcher restored = eventful();
        restored.save();
        moreEvents(restored);
        restored.undo();
        restored.restore();
        Check.is("54 the state", before, Twins.state(restored));
    }

    private static SnowDispatcher eventful() {
        SnowDispatcher d = Towns.full();
        d.addPlough(0);
        d.addPlough(3);
        d.loadSalt(100);
        d.setSnowfall(7);
        d.setWind(3);
        d.addPlough(7);
        d.order(2, 0);
        d.order(0, 4);
        d.order(0, 0);
        d.order(1, 11);
        d.salt(5);
        d.advance(62);
        d.order(1, 2);
        return d;
    }

    /** Four changes. */
    private static void moreEvents(SnowDispatcher d) {
        d.advance(600);
        d.salt(1);
        d.order(0, 7);
        d.setSnowfall(1);
    }

    /** Each kind of change is undone by itself, just behind another one. */
    private static void eachKind() {
        eachUndone("addStreet", d -> d.addStreet(3, 4, 'c', 1));
        eachUndone("addPlough", d -> d.addPlough(7));
        eachUndone("order", d -> d.order(0, 2));
        eachUndone("cancelOrder", d -> d.cancelOrder(0));
        eachUndone("salt", d -> d.salt(1));
        eachUndone("loadSalt", d -> d.loadSalt(7));
        eachUndone("setSnowfall", d -> d.setSnowfall(8));
        eachUndone("setWind", d -> d.setWind(8));
        eachUndone("advance", d -> d.advance(200));
        eachUndone("runScript", d -> Towns.run(d, "street 3 5 a9;plough 3;order 0 1;salt 1;load 5;wait 70"));
    }

    private static void eachUndone(String name, Twins.Step step) {
        SnowDispatcher d = Towns.smallWithPlough();
        d.setSnowfall(3);
        d.loadSalt(20);
        d.advance(65);
        d.order(0, 2);
        d.advance(1);
        d.order(0, 0);
        d.order(0, 2);
        String before = Twins.state(d);
        step.take(d);
        Check.is("52 does something: " + name, false, before.equals(Twins.state(d)));
        Check.is("52 left: " + name, 7, d.undo());
        Check.is("52 undoes " + name, before, Twins.state(d));
        step.take(d);
        d.save();
        String later = Twins.state(d);
        d.undo();
        d.restore();
        Check.is("54 brings back " + name, later, Twins.state(d));
    }
}
