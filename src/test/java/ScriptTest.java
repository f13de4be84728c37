import java.util.NoSuchElementException;

/** Promises 48 to 51: typing and running scripts. */
public final class ScriptTest {
    private static final Class<IllegalArgumentException> ARGUMENT = IllegalArgumentException.class;
    private static final Class<IllegalStateException> STATE = IllegalStateException.class;
    private static final Class<NoSuchElementException> ELEMENT = NoSuchElementException.class;
    private static final String WRONG = "throws java.lang.IllegalArgumentException";
    private static final String FAILED = "throws java.lang.IllegalStateException";

    public static void main(String[] args) {
        promise48();
        promise49Commands();
        promise49AllOrNothing();
        promise49Buffer();
        promise50();
        promise50Kept();
        promise51();
        Check.end();
    }

    private static void promise48() {
        SnowDispatcher d = new SnowDispatcher();
        for (char bad : new char[] {0, 31, 127, 128, 255, 256, 0xffff}) {
            Check.refuses("48 code " + (int) bad, ARGUMENT, () -> d.type(bad));
        }
        Check.is("48 space", 1, d.type(' '));
        Check.is("48 tilde", 2, d.type('~'));
        for (int length = 3; length <= 60; length++) {
            Check.is("48 length", length, d.type('x'));
        }
        Check.refuses("48 full", STATE, () -> d.type('x'));
        Check.refuses("48 full and wrong", ARGUMENT, () -> d.type((char) 127));
        Check.refuses("48 run", ARGUMENT, () -> d.runScript());
        Check.is("48 empty again", 1, d.type('x'));
    }

    private static void promise49Commands() {
        SnowDispatcher d = new SnowDispatcher();
        Check.is("49 five", 5, Towns.run(d, "street 4 3 b7;street 3 5 a1;plough 3;plough 5;order 1 0"));
        Check.is("49 street", "0:3-4b0cm", Towns.streetText(d, 0));
        Check.is("49 street length", 7, d.length(0));
        Check.is("49 street class", 'a', d.streetClass(1));
        Check.is("49 plough", 5, d.junction(1));
        Check.is("49 order", "0", Towns.queueText(d, 1));
        Check.is("49 numbers", 6, Towns.run(d, "order 0 001;order 0 01;cancel 0;snow 9;wind 8;load 200"));
        Check.is("49 cancel", "1", Towns.queueText(d, 0));
        Check.is("49 snow", 9, d.snowfall());
        Check.is("49 wind", 8, d.wind());
        Check.is("49 load", 200, d.saltStore());
        Check.is("49 salt and wait", 2, Towns.run(d, "salt 0;wait 045"));
        Check.is("49 salt", 193, d.saltStore());
        Check.is("49 wait", 45, d.time());
        Check.is("49 cleared", 2, d.clearedTotal());
        Check.is("49 class c", 1, Towns.run(d, "street 0 7 c9"));
        Check.is("49 class c", 'c', d.streetClass(2));
        Check.is("49 eight", 8, Towns.run(d, "wait 1;wait 2;wait 3;wait 4;wait 5;wait 6;wait 7;wait 600"));
        Check.is("49 waited", 45 + 28 + 600, d.time());
    }

    private static void promise49AllOrNothing() {
        SnowDispatcher d = Towns.smallWithPlough();
        d.loadSalt(4);
        d.order(0, 0);
        for (int i = 0; i < 8; i++) {
            d.setWind(i);
        }
        Check.is("49 fails", FAILED, Towns.run(d, "street 0 5 a1;order 0 3;cancel 0;load 0"));
        Check.is("51 index", 3, d.failedCommand());
        Check.is("49 fails", FAILED, Towns.run(d, "wait 60;snow 5;salt 0;order 0 1;plough 4;wind 3;salt 1"));
        Check.is("51 index", 6, d.failedCommand());
        Check.is("49 time", 0, d.time());
        Check.is("49 snow", 0, d.snowfall());
        Check.is("49 wind", 7, d.wind());
        Check.is("49 store", 4, d.saltStore());
        Check.is("49 salted", false, d.isSalted(0));
        Check.is("49 queue", "0", Towns.queueText(d, 0));
        Check.is("49 ploughs", 1, d.ploughCount());
        Check.is("49 streets", 3, d.streetCount());
        Check.is("49 no change", 7, d.undo());
        Check.is("49 the change before", 6, d.wind());
        Check.is("49 wrong", WRONG, Towns.run(d, "wait 60;snow 5;"));
        Check.is("49 wrong does nothing", 0, d.time());
        Check.is("49 wrong is no change", 6, d.undo());
        Check.is("49 one change", 2, Towns.run(d, "wait 60;snow 5"));
        Check.is("49 undone as one", 6, d.undo());
        Check.is("49 time before", 0, d.time());
        Check.is("49 snow before", 0, d.snowfall());
    }

    private static void promise49Buffer() {
        SnowDispatcher d = new SnowDispatcher();
        Check.refuses("49 empty", ARGUMENT, () -> d.runScript());
        Check.is("50 empty", 0, d.errorPosition());
        Towns.type(d, "snow 1");
        Check.is("49 runs", 1, d.runScript());
        Check.refuses("49 empty after running", ARGUMENT, () -> d.runScript());
        Towns.type(d, "snow x");
        Check.refuses("49 wrong", ARGUMENT, () -> d.runScript());
        Check.is("48 empty after a wrong one", 1, d.type('s'));
        Towns.type(d, "alt 0");
        Check.refuses("49 fails", STATE, () -> d.runScript());
        Check.is("48 empty after a failed one", 1, d.type('s'));
        d.undo();
        Check.is("48 not covered by undo", 2, d.type('n'));
        d.save();
        d.type('o');
        d.restore();
        Check.is("48 not covered by the snapshot", 4, d.type('w'));
    }

    private static void promise50() {
        SnowDispatcher d = new SnowDispatcher();
        Check.refuses("50 none", ELEMENT, () -> d.errorPosition());
        wrongAt(d, "", 0);
        wrongAt(d, "?", 0);
        wrongAt(d, " ", 0);
        wrongAt(d, ";", 0);
        wrongAt(d, "Snow 1", 0);
        wrongAt(d, "s", 1);
        wrongAt(d, "so", 1);
        wrongAt(d, "sa", 2);
        wrongAt(d, "sal 1", 3);
        wrongAt(d, "snow", 4);
        wrongAt(d, "snow ", 5);
        wrongAt(d, "snow  1", 5);
        wrongAt(d, "snow 10", 6);
        wrongAt(d, "snow -1", 5);
        wrongAt(d, "snow 1 ", 6);
        wrongAt(d, "snow 1;", 7);
        wrongAt(d, "snow 1;;", 7);
        wrongAt(d, "snow 1; wind 1", 7);
        wrongAt(d, "snow 1;wa", 9);
        wrongAt(d, "snow 1;wx", 8);
        wrongAt(d, "win 1", 3);
        wrongAt(d, "wait ", 5);
        wrongAt(d, "wait ;", 5);
        wrongAt(d, "wait 1;w", 8);
        wrongAt(d, "wait 12x", 7);
        wrongAt(d, "wait 1234", 8);
        wrongAt(d, "salt 0000", 8);
        wrongAt(d, "load a", 5);
        wrongAt(d, "plough 12", 8);
        wrongAt(d, "plow 1", 3);
        wrongAt(d, "cancel 0 1", 8);
        wrongAt(d, "order 0", 7);
        wrongAt(d, "order 0 ", 8);
        wrongAt(d, "order 00 1", 7);
        wrongAt(d, "order 0 1111", 11);
        wrongAt(d, "order a 1", 6);
        wrongAt(d, "street 0 1 d3", 11);
        wrongAt(d, "street 0 1 `3", 11);
        wrongAt(d, "street 0 1 a", 12);
        wrongAt(d, "street 0 1 a 3", 12);
        wrongAt(d, "street 0 1 a33", 13);
        wrongAt(d, "street 0 1a3", 10);
        wrongAt(d, "street 0 1 a3;street 0 1 b", 26);
        wrongAt(d, "wait 1/", 6);
        wrongAt(d, "wait :", 5);
        Check.is("50 nothing was carried out", 0, d.snowfall() + d.time() + d.streetCount());
    }

    private static void wrongAt(SnowDispatcher d, String script, int due) {
        Check.is("49 '" + script + "'", WRONG, Towns.run(d, script));
        Check.is("50 '" + script + "'", due, d.errorPosition());
    }

    private static void promise50Kept() {
        SnowDispatcher d = new SnowDispatcher();
        wrongAt(d, "snow", 4);
        Towns.run(d, "snow 1");
        Check.is("50 after a right one", 4, d.errorPosition());
        Towns.run(d, "snow 2;salt 9");
        Check.is("50 after a failed one", 4, d.errorPosition());
        Check.refuses("51 is apart", ELEMENT, () -> new SnowDispatcher().failedCommand());
        d.undo();
        Check.is("50 not covered by undo", 4, d.errorPosition());
        d.save();
        wrongAt(d, "wind 7;", 7);
        Check.is("51 after a wrong one", 1, d.failedCommand());
        d.restore();
        Check.is("50 not covered by the snapshot", 7, d.errorPosition());
    }

    private static void promise51() {
        SnowDispatcher d = Towns.smallWithPlough();
        Check.refuses("51 none", ELEMENT, () -> d.failedCommand());
        Towns.run(d, "snow");
        Check.refuses("51 none of these", ELEMENT, () -> d.failedCommand());
        failsAt(d, "street 0 8 a1", 0);
        failsAt(d, "snow 1;street 0 3 a0", 1);
        failsAt(d, "snow 1;wind 2;street 0 1 a1", 2);
        failsAt(d, "street 3 3 a1", 0);
        failsAt(d, "plough 9", 0);
        failsAt(d, "plough 1;plough 1;plough 1;plough 1", 3);
        failsAt(d, "order 1 0", 0);
        failsAt(d, "order 0 3", 0);
        failsAt(d, "order 0 999", 0);
        failsAt(d, "snow 3;cancel 0", 1);
        failsAt(d, "cancel 3", 0);
        failsAt(d, "salt 3", 0);
        failsAt(d, "salt 0", 0);
        failsAt(d, "load 9;salt 0;salt 0", 2);
        failsAt(d, "load 0", 0);
        failsAt(d, "load 201", 0);
        failsAt(d, "load 200;load 200;load 101", 2);
        failsAt(d, "wait 0", 0);
        failsAt(d, "wait 1;wait 601", 1);
        failsAt(d, "wait 1;wait 000", 1);
        Check.is("51 right", 2, Towns.run(d, "wait 1;wait 600"));
        Check.is("51 kept", 1, d.failedCommand());
        d.undo();
        Check.is("51 not covered by undo", 1, d.failedCommand());
        d.save();
        failsAt(d, "snow 1;wind 1;wait 999", 2);
        d.restore();
        Check.is("51 not covered by the snapshot", 2, d.failedCommand());
    }

    private static void failsAt(SnowDispatcher d, String script, int due) {
        Check.is("49 '" + script + "'", FAILED, Towns.run(d, script));
        Check.is("51 '" + script + "'", due, d.failedCommand());
        Check.is("49 nothing was carried out", "0 0 0 1 3",
                d.snowfall() + " " + d.time() % 601 + " " + d.saltStore() + " " + d.ploughCount() + " "
                        + d.streetCount());
    }
}
