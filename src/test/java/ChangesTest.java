import java.util.NoSuchElementException;

/** The sentences about changes, undo and the snapshot, at their bounds. */
public final class ChangesTest {
    private static final Class<NoSuchElementException> ELEMENT = NoSuchElementException.class;
    private static final Class<IllegalStateException> STATE = IllegalStateException.class;
    private static final String[] QUEUES = {"4,1,3,0,2", "11,7,10,6,9", "0,5,0,5,0", "8,9,10,11,3"};

    public static void main(String[] args) {
        eachKindIsAChange();
        sameStateIsAChange();
        othersAreNoChanges();
        oneToTwentyEightChanges();
        undoneOneByOne();
        changesAfterUndos();
        notCoveredByUndo();
        notCoveredByTheSnapshot();
        snapshotOfNothing();
        snapshotIsReplaced();
        snapshotIsKept();
        undoAcrossASave();
        undoAfterARestore();
        addedAnew();
        otherThingsAtTheSameIndex();
        fullQueuesOfAllPloughs();
        Check.end();
    }

    private static void change(String name, Twins.Step step) {
        SnowDispatcher d = Towns.smallWithPlough();
        d.loadSalt(9);
        d.order(0, 0);
        d.save();
        d.restore();
        String before = Twins.state(d);
        Check.refuses("Changes: nothing to undo before " + name, ELEMENT, () -> d.undo());
        step.take(d);
        Check.is("Changes: one after " + name, 0, d.undo());
        Check.is("Changes: undone " + name, before, Twins.state(d));
        Check.refuses("Changes: nothing more than " + name, ELEMENT, () -> d.undo());
    }

    private static void eachKindIsAChange() {
        change("addStreet", d -> d.addStreet(3, 4, 'a', 1));
        change("addPlough", d -> d.addPlough(7));
        change("order", d -> d.order(0, 2));
        change("cancelOrder", d -> d.cancelOrder(0));
        change("salt", d -> d.salt(0));
        change("loadSalt", d -> d.loadSalt(1));
        change("setSnowfall", d -> d.setSnowfall(9));
        change("setWind", d -> d.setWind(9));
        change("advance", d -> d.advance(1));
        change("advance by all minutes", d -> d.advance(600));
        change("runScript", d -> Towns.run(d, "wait 600;snow 3;street 0 7 a1;plough 3;salt 1;order 0 3"));
    }

    private static void sameStateIsAChange() {
        change("setSnowfall to the same", d -> d.setSnowfall(0));
        change("setWind to the same", d -> d.setWind(0));
        change("a script to the same", d -> Towns.run(d, "snow 0;wind 0"));
        change("a script that takes back", d -> Towns.run(d, "order 0 1;cancel 0;snow 3;snow 0"));
    }

    private static void noChange(String name, Twins.Step step) {
        SnowDispatcher d = Twins.busy();
        Object answer = Check.outcome(() -> step.take(d));
        Check.is("Changes: still 8 after " + name + " answered " + answer, 7, d.undo());
        SnowDispatcher fresh = Towns.small();
        Check.outcome(() -> step.take(fresh));
        Check.is("Changes: still 3 after " + name, 2, fresh.undo());
    }

    private static void othersAreNoChanges() {
        noChange("save", d -> d.save());
        noChange("type", d -> d.type('x'));
        noChange("renderStreet", d -> d.renderStreet(0));
        noChange("renderQueue", d -> d.renderQueue(0));
        noChange("outputAt", d -> d.outputAt(0));
        noChange("isConsistent", d -> d.isConsistent());
        noChange("depthAfter", d -> d.depthAfter(0, 600));
        noChange("minutesUntilCleared", d -> d.minutesUntilCleared(0));
        noChange("a refused change", d -> d.advance(0));
        noChange("a script of a wrong form", d -> Towns.run(d, "x"));
        Twins.Step failing = d -> {
            Towns.run(d, "");
            return Towns.run(d, "snow 1;wait 0");
        };
        noChange("a failed script", failing);
    }

    /** However often the places of the changes have been used, the latest 8 are there, and no more. */
    private static void oneToTwentyEightChanges() {
        for (int changes = 0; changes <= 28; changes++) {
            SnowDispatcher d = new SnowDispatcher();
            int time = 0;
            for (int change = 1; change <= changes; change++) {
                d.advance(change);
                time += change;
            }
            for (int undone = 1; undone <= Math.min(changes, 8); undone++) {
                Check.is("52 of " + changes + " changes", Math.min(changes, 8) - undone, d.undo());
                time -= changes + 1 - undone;
                Check.is("52 the time before, of " + changes, time, d.time());
            }
            Check.refuses("52 a ninth, of " + changes, ELEMENT, () -> d.undo());
            Check.is("52 it stays, of " + changes, time, d.time());
        }
    }

    private static void undoneOneByOne() {
        SnowDispatcher d = new SnowDispatcher();
        for (int round = 0; round < 30; round++) {
            d.setWind(round % 10);
            d.setSnowfall(3);
            Check.is("52 the latest one first", Math.min(round + 1, 7), d.undo());
            Check.is("52 only the latest", "0 " + round % 10, d.snowfall() + " " + d.wind());
        }
    }

    /** What is undone is no longer there to be undone; a new change comes on top of those that are left. */
    private static void changesAfterUndos() {
        SnowDispatcher d = new SnowDispatcher();
        for (int minutes = 1; minutes <= 10; minutes++) {
            d.advance(minutes);
        }
        for (int left = 7; left >= 5; left--) {
            Check.is("52 left", left, d.undo());
        }
        d.advance(100);
        Check.is("52 the new one", 5, d.undo());
        Check.is("52 the time before it", 28, d.time());
        d.advance(200);
        d.advance(300);
        d.advance(400);
        d.advance(500);
        for (int left = 7; left >= 4; left--) {
            Check.is("52 left of eight", left, d.undo());
        }
        for (int left = 3; left >= 0; left--) {
            Check.is("52 left of the old ones", left, d.undo());
            Check.is("52 the time before them", new int[] {6, 10, 15, 21}[left], d.time());
        }
        Check.refuses("52 nothing left", ELEMENT, () -> d.undo());
    }

    private static void notCoveredByUndo() {
        SnowDispatcher d = Twins.busyWithoutText();
        String memory = Twins.memory(d);
        d.save();
        d.setSnowfall(2);
        d.type('w');
        d.setWind(7);
        for (int undone = 0; undone < 8; undone++) {
            d.undo();
        }
        Check.is("Changes: undo leaves the texts and positions", memory, Twins.memory(d));
        Check.is("Changes: undo leaves the script buffer", 1, Towns.run(d, "ait 1"));
        Check.is("Changes: undo leaves the snapshot", 3, d.restore());
        Check.is("Changes: of that time", "9 132 5", d.snowfall() + " " + d.time() + " " + d.queueLength(0));
    }

    private static void notCoveredByTheSnapshot() {
        SnowDispatcher d = Twins.busyWithoutText();
        d.save();
        d.type('w');
        d.renderStreet(2);
        String memory = Twins.memory(d);
        d.restore();
        Check.is("Changes: the snapshot leaves the text", memory, Twins.memory(d));
        Check.is("Changes: the snapshot leaves the script buffer", 2, d.type('a'));
        Towns.run(d, "x");
        Towns.run(d, "wait 0");
        d.restore();
        Check.is("Changes: the snapshot leaves the positions", "2 0", d.errorPosition() + " " + d.failedCommand());
        d.restore();
        Check.is("Changes: the snapshot leaves itself", 3, d.restore());
    }

    private static void snapshotOfNothing() {
        SnowDispatcher d = new SnowDispatcher();
        Check.refuses("54 none", STATE, () -> d.restore());
        Check.is("53 no streets", 0, d.save());
        String empty = Twins.state(d);
        for (int street = 1; street <= 7; street++) {
            d.addStreet(0, street, 'a', 1);
            d.addPlough(Math.min(street, 7));
            if (d.ploughCount() == 4) {
                d.undo();
            }
        }
        Check.is("54 no streets", 0, d.restore());
        Check.is("54 as before", empty, Twins.state(d));
        SnowDispatcher full = Towns.full();
        Check.is("53 twelve streets", 12, full.save());
        full.undo();
        Check.is("11 eleven", 11, full.streetCount());
        Check.is("54 twelve streets", 12, full.restore());
        Check.is("11 twelve", 12, full.streetCount());
    }

    private static void snapshotIsReplaced() {
        SnowDispatcher d = new SnowDispatcher();
        d.addStreet(0, 1, 'a', 1);
        Check.is("53 one street", 1, d.save());
        d.addStreet(1, 2, 'a', 1);
        d.setWind(4);
        Check.is("53 two streets", 2, d.save());
        d.addStreet(2, 3, 'a', 1);
        Check.is("54 the later one", 2, d.restore());
        Check.is("37", 4, d.wind());
        d.setWind(5);
        Check.is("53 the same streets", 2, d.save());
        d.setWind(6);
        d.restore();
        Check.is("37 of the last one", 5, d.wind());
    }

    private static void snapshotIsKept() {
        SnowDispatcher d = Twins.busy();
        d.save();
        String saved = Twins.state(d);
        for (int again = 1; again <= 5; again++) {
            d.advance(100 * again);
            d.order(1, 2);
            Check.is("54 number " + again, 3, d.restore());
            Check.is("54 as it was, number " + again, saved, Twins.state(d));
            Check.refuses("54 nothing to undo, number " + again, ELEMENT, () -> d.undo());
        }
    }

    private static void undoAcrossASave() {
        SnowDispatcher d = new SnowDispatcher();
        d.setWind(1);
        d.setWind(2);
        d.save();
        d.setWind(3);
        Check.is("52 behind the snapshot", 2, d.undo());
        Check.is("52 before the snapshot", 1, d.undo());
        Check.is("37", 1, d.wind());
        Check.is("54 forward again", 0, d.restore());
        Check.is("37", 2, d.wind());
    }

    private static void undoAfterARestore() {
        SnowDispatcher d = new SnowDispatcher();
        d.setWind(1);
        d.save();
        for (int force = 2; force <= 9; force++) {
            d.setWind(force);
        }
        d.restore();
        Check.refuses("54 nothing to undo", ELEMENT, () -> d.undo());
        d.setSnowfall(7);
        d.setSnowfall(8);
        Check.is("52 since the restore", 1, d.undo());
        Check.is("52 since the restore", 0, d.undo());
        Check.is("52 as it was restored", "0 1", d.snowfall() + " " + d.wind());
        Check.refuses("52 not beyond the restore", ELEMENT, () -> d.undo());
        for (int rate = 1; rate <= 9; rate++) {
            d.setSnowfall(rate);
        }
        for (int left = 7; left >= 0; left--) {
            Check.is("52 eight again", left, d.undo());
            Check.is("36 eight again", left + 1, d.snowfall());
        }
        Check.refuses("52 not a ninth", ELEMENT, () -> d.undo());
    }

    /** After the snapshot another street and another plough take the place of those that it holds. */
    private static void otherThingsAtTheSameIndex() {
        SnowDispatcher d = new SnowDispatcher();
        d.addPlough(2);
        d.addStreet(0, 3, 'a', 4);
        d.save();
        d.undo();
        d.undo();
        d.addPlough(5);
        d.addStreet(1, 6, 'c', 9);
        Check.is("2 another street", "0:1-6c0cm 9", Towns.streetText(d, 0) + " " + d.length(0));
        Check.is("3 another plough", 5, d.junction(0));
        Towns.snow(d, 7);
        Check.is("17 another class", false, d.isOverdue(0));
        d.restore();
        Check.is("54 the saved street", "0:0-3a0cm 4", Towns.streetText(d, 0) + " " + d.length(0));
        Check.is("54 the saved plough", 2, d.junction(0));
        Towns.snow(d, 7);
        Check.is("17 the saved class", true, d.isOverdue(0));
        Check.is("21 the saved ends", 4, d.distance(0, 3));
        Check.refuses("21 not those of the other one", ELEMENT, () -> d.distance(1, 6));
    }

    private static void fullQueuesOfAllPloughs() {
        SnowDispatcher d = Towns.full();
        for (int plough = 0; plough < 4; plough++) {
            d.addPlough(plough);
            for (String street : QUEUES[plough].split(",")) {
                d.order(plough, Integer.parseInt(street));
            }
        }
        d.save();
        d.advance(600);
        Check.is("Changes: all is carried out", "20 0 0 0 0", d.clearedTotal() + " " + lengths(d));
        d.undo();
        queuesAreFull("Changes: undo brings back the queues", d);
        for (int order = 0; order < 4; order++) {
            d.cancelOrder(order);
        }
        d.advance(100);
        d.restore();
        queuesAreFull("Changes: the snapshot brings back the queues", d);
        int due = d.minutesUntilCleared(8);
        Check.is("Changes: predictions know the queues", true, d.minutesUntilCleared(3) > due);
        queuesAreFull("Changes: predictions leave the queues", d);
    }

    private static String lengths(SnowDispatcher d) {
        return d.queueLength(0) + " " + d.queueLength(1) + " " + d.queueLength(2) + " " + d.queueLength(3);
    }

    private static void queuesAreFull(String sentence, SnowDispatcher d) {
        for (int plough = 0; plough < 4; plough++) {
            Check.is(sentence + ", plough " + plough, QUEUES[plough], Towns.queueText(d, plough));
        }
    }

    /** Nothing of a street or plough that was undone comes back with the next one at its index. */
    private static void addedAnew() {
        SnowDispatcher d = new SnowDispatcher();
        d.addStreet(0, 1, 'a', 1);
        d.addPlough(0);
        d.save();
        d.addStreet(1, 2, 'a', 5);
        d.addPlough(1);
        d.order(1, 1);
        d.order(1, 0);
        d.loadSalt(9);
        d.salt(1);
        d.setSnowfall(9);
        d.advance(130);
        d.restore();
        Check.is("2 the same index", 1, d.addStreet(1, 3, 'c', 2));
        Check.is("3 the same index", 1, d.addPlough(3));
        Check.is("2 nothing of the old street", "1:1-3c0cm", Towns.streetText(d, 1));
        Check.is("20 nothing of the old street", 0, d.complaints(1));
        Check.is("18 nothing of the old street", false, d.isSalted(1));
        Check.is("3 nothing of the old plough", "false 3 0 0",
                d.isBusy(1) + " " + d.junction(1) + " " + d.busyMinutes(1) + " " + d.queueLength(1));
        Check.refuses("32 nothing of the old orders", ELEMENT, () -> d.minutesUntilCleared(1));
    }
}
