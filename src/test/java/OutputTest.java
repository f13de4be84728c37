/** Promises 45 to 47: the output text. */
public final class OutputTest {
    private static final Class<IndexOutOfBoundsException> INDEX = IndexOutOfBoundsException.class;

    public static void main(String[] args) {
        promise45();
        promise46();
        promise47();
        Check.end();
    }

    private static void promise45() {
        SnowDispatcher d = Towns.small();
        Check.is("45 length", 9, d.renderStreet(1));
        Check.is("45", "1:1-2a0cm", Towns.streetText(d, 1));
        d.loadSalt(9);
        d.salt(0);
        Check.is("45 salted", "0:0-1b0cm*", Towns.streetText(d, 0));
        d.setSnowfall(9);
        d.advance(120);
        Check.is("45 two digits", "2:6-7c18cm", Towns.streetText(d, 2));
        Check.is("45 salted and deep", "0:0-1b12cm*", Towns.streetText(d, 0));
        d.advance(119);
        Check.is("45 last salted minute", "0:0-1b18cm*", Towns.streetText(d, 0));
        d.advance(1);
        Check.is("45 no longer salted", "0:0-1b27cm", Towns.streetText(d, 0));
        for (int i = 0; i < 3; i++) {
            d.advance(600);
        }
        Check.is("45 three digits", "2:6-7c200cm", Towns.streetText(d, 2));
        for (int bad : new int[] {-1, 3, 12, Integer.MIN_VALUE, Integer.MAX_VALUE}) {
            Check.refuses("45 street " + bad, INDEX, () -> d.renderStreet(bad));
        }
        Check.is("45 the text stays", "2:6-7c200cm", Towns.text(d, 11));
        Check.is("45 index of two digits", "11:1-6c0cm", Towns.streetText(Towns.full(), 11));
    }

    private static void promise46() {
        SnowDispatcher d = Towns.full();
        d.addPlough(0);
        d.renderStreet(0);
        Check.is("46 empty", 0, d.renderQueue(0));
        Check.refuses("47 empty", INDEX, () -> d.outputAt(0));
        d.order(0, 7);
        Check.is("46 one", "7", Towns.queueText(d, 0));
        d.order(0, 2);
        d.order(0, 11);
        d.order(0, 0);
        Check.is("46 length", 8, d.renderQueue(0));
        Check.is("46 four", "7,2,11,0", Towns.queueText(d, 0));
        d.advance(1);
        Check.is("46 without the one in work", "2,11,0", Towns.queueText(d, 0));
        for (int bad : new int[] {-1, 1, 4, Integer.MIN_VALUE, Integer.MAX_VALUE}) {
            Check.refuses("46 plough " + bad, INDEX, () -> d.renderQueue(bad));
        }
        Check.is("46 the text stays", "2,11,0", Towns.text(d, 6));
    }

    private static void promise47() {
        SnowDispatcher d = Towns.smallWithPlough();
        Check.refuses("47 at first", INDEX, () -> d.outputAt(0));
        int length = d.renderStreet(1);
        for (int bad : new int[] {-1, length, Integer.MIN_VALUE, Integer.MAX_VALUE}) {
            Check.refuses("47 index " + bad, INDEX, () -> d.outputAt(bad));
        }
        Check.is("47 first", '1', d.outputAt(0));
        Check.is("47 last", 'm', d.outputAt(length - 1));
        d.setSnowfall(9);
        d.advance(60);
        d.undo();
        Check.is("47 not covered by undo, nor made anew", "1:1-2a0cm", Towns.text(d, length));
        d.save();
        d.renderStreet(0);
        d.restore();
        Check.is("47 not covered by the snapshot", "0:0-1b0cm", Towns.text(d, length));
    }
}
