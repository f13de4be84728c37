/**
 * Dispatchers with the same past: one of them bears a call that must change nothing, then both are asked for all that
 * can be asked, and the answers are compared. Asking for all uses the dispatcher up; it stays below 512 calls.
 */
final class Twins {
    interface Recipe {
        SnowDispatcher made();
    }

    interface Step {
        Object take(SnowDispatcher d);
    }

    private Twins() {
    }

    /** The call throws just this exception and changes nothing. */
    static void refuses(String sentence, Class<? extends RuntimeException> due, Recipe recipe, Step step) {
        SnowDispatcher tried = recipe.made();
        Check.refuses(sentence, due, () -> step.take(tried));
        Check.is(sentence + ", changes nothing", everything(recipe.made()), everything(tried));
    }

    /** The call answers this and changes nothing. */
    static void keeps(String sentence, Object due, Recipe recipe, Step step) {
        SnowDispatcher asked = recipe.made();
        Check.is(sentence, due, Check.outcome(() -> step.take(asked)));
        Check.is(sentence + ", changes nothing", everything(recipe.made()), everything(asked));
    }

    /**
     * Three streets, plough 0 at work with a full queue, plough 1 idle without orders, street 0 salted and 1 unit of
     * salt left; more than 8 changes, a snapshot, an output text, an error position, a failed command and "wind 5" in
     * the script buffer.
     */
    static SnowDispatcher busy() {
        SnowDispatcher d = busyWithoutText();
        Towns.type(d, "wind 5");
        return d;
    }

    static SnowDispatcher busyWithoutText() {
        SnowDispatcher d = Towns.smallWithPlough();
        d.addPlough(1);
        d.setSnowfall(9);
        d.setWind(2);
        d.loadSalt(4);
        d.salt(0);
        d.order(1, 2);
        d.order(0, 1);
        d.advance(130);
        d.save();
        d.order(0, 0);
        d.advance(2);
        for (int street : new int[] {2, 1, 0, 1, 2}) {
            d.order(0, street);
        }
        d.renderStreet(1);
        Towns.run(d, "snow");
        Towns.run(d, "wait 1;plough 8");
        return d;
    }

    /** Twelve streets, four ploughs, plough 3 with a full queue, and 500 units of salt. */
    static SnowDispatcher full() {
        SnowDispatcher d = Towns.full();
        for (int plough = 0; plough < 4; plough++) {
            d.addPlough(plough);
        }
        d.setSnowfall(9);
        d.setWind(9);
        d.advance(60);
        d.order(3, 11);
        d.advance(1);
        for (int street = 7; street < 12; street++) {
            d.order(3, street);
        }
        d.loadSalt(200);
        d.loadSalt(200);
        d.loadSalt(100);
        d.renderQueue(3);
        return d;
    }

    /** A script of 60 characters in the buffer, which would run. */
    static SnowDispatcher fullBuffer() {
        SnowDispatcher d = Towns.smallWithPlough();
        Towns.type(d, "wait 1;wait 2;wait 3;wait 4;wait 5;wait 06;wait 007;wait 008");
        return d;
    }

    static String everything(SnowDispatcher d) {
        return memory(d) + deeds(d) + memory(d);
    }

    /** All but what neither undo nor the snapshot covers. */
    static String deeds(SnowDispatcher d) {
        StringBuilder text = new StringBuilder(state(d));
        text.append("script: ").append(Check.outcome(() -> d.runScript())).append(' ').append(brief(d));
        boolean more = true;
        while (more) {
            Object left = Check.outcome(() -> d.undo());
            more = left instanceof Integer;
            text.append("undo: ").append(left).append(' ').append(brief(d));
        }
        text.append("restore: ").append(Check.outcome(() -> d.restore())).append(' ').append(brief(d));
        text.append("later: ").append(d.advance(600)).append(' ').append(brief(d));
        return text.toString();
    }

    /** The output text, the error position and the index of the failed command. */
    static String memory(SnowDispatcher d) {
        StringBuilder text = new StringBuilder("output: ");
        boolean more = true;
        for (int index = 0; more; index++) {
            int at = index;
            Object sign = Check.outcome(() -> d.outputAt(at));
            more = sign instanceof Character;
            text.append(more ? sign : "\n");
        }
        text.append("error: ").append(Check.outcome(() -> d.errorPosition())).append('\n');
        text.append("failed: ").append(Check.outcome(() -> d.failedCommand())).append('\n');
        return text.toString();
    }

    static String state(SnowDispatcher d) {
        StringBuilder text = new StringBuilder();
        int streets = d.streetCount();
        for (int street = 0; street < streets; street++) {
            appendStreet(text, d, street);
        }
        int ploughs = d.ploughCount();
        for (int plough = 0; plough < ploughs; plough++) {
            appendPlough(text, d, plough);
        }
        return text.append(brief(d)).toString();
    }

    private static void appendStreet(StringBuilder text, SnowDispatcher d, int street) {
        text.append("street ").append(street).append(": ").append(d.lowerEnd(street)).append('-');
        text.append(d.higherEnd(street)).append(d.streetClass(street)).append(d.length(street)).append(' ');
        text.append(d.depth(street)).append(d.isOverdue(street) ? "!" : "").append(' ');
        text.append(Check.outcome(() -> d.saltMinutes(street))).append(' ').append(d.complaints(street)).append(' ');
        text.append(d.streetByUrgency(street)).append('\n');
    }

    private static void appendPlough(StringBuilder text, SnowDispatcher d, int plough) {
        text.append("plough ").append(plough).append(": ").append(d.isBusy(plough)).append(' ');
        text.append(d.junction(plough)).append(' ').append(Check.outcome(() -> d.currentStreet(plough))).append(' ');
        int orders = d.queueLength(plough);
        for (int position = 0; position < orders; position++) {
            text.append(' ').append(d.queuedStreet(plough, position));
        }
        text.append('\n');
    }

    private static String brief(SnowDispatcher d) {
        StringBuilder text = new StringBuilder();
        text.append(d.time()).append(' ').append(d.saltStore()).append(' ').append(d.snowfall()).append(' ');
        text.append(d.wind()).append(' ').append(d.clearedTotal()).append(' ').append(d.ploughedTotal()).append(' ');
        text.append(d.failedOrders()).append(' ').append(d.complaintTotal()).append(' ').append(d.streetCount());
        text.append(' ').append(Check.outcome(() -> d.meanDepth()));
        text.append(' ').append(Check.outcome(() -> d.saltedShare()));
        int ploughs = d.ploughCount();
        for (int plough = 0; plough < ploughs; plough++) {
            text.append(' ').append(d.busyMinutes(plough)).append('+').append(d.queueLength(plough));
        }
        return text.append('\n').toString();
    }
}
