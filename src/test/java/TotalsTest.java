import java.lang.reflect.Field;

/** Promises 34 to 44: totals, means and the check of the state. */
public final class TotalsTest {
    public static void main(String[] args) throws ReflectiveOperationException {
        totals();
        means();
        promise44();
        promise44Broken();
        Check.end();
    }

    private static void totals() {
        SnowDispatcher d = Towns.smallWithPlough();
        d.setSnowfall(6);
        d.setWind(2);
        d.loadSalt(30);
        d.setWind(0);
        d.advance(120);
        d.order(0, 1);
        d.order(0, 2);
        d.order(0, 0);
        d.salt(2);
        d.advance(31);
        Check.is("34", 151, d.time());
        Check.is("35", 29, d.saltStore());
        Check.is("36", 6, d.snowfall());
        Check.is("37", 0, d.wind());
        Check.is("38", 2, d.clearedTotal());
        Check.is("39", 24, d.ploughedTotal());
        Check.is("40", 1, d.failedOrders());
        Check.is("41", 3, d.complaintTotal());
        Check.is("41 sum", 3, d.complaints(0) + d.complaints(1) + d.complaints(2));
    }

    private static void means() {
        SnowDispatcher d = new SnowDispatcher();
        Check.refuses("42 no streets", ArithmeticException.class, () -> d.meanDepth());
        Check.refuses("43 no streets", ArithmeticException.class, () -> d.saltedShare());
        d.addStreet(0, 1, 'a', 1);
        Check.is("42 no snow", 0.0, d.meanDepth());
        Check.is("43 no salt", 0.0f, d.saltedShare());
        d.setSnowfall(5);
        d.advance(60);
        d.addStreet(1, 2, 'a', 1);
        Check.is("42 half", 2.5, d.meanDepth());
        d.addStreet(2, 3, 'a', 1);
        Check.is("42 third", 5.0 / 3.0, d.meanDepth());
        d.loadSalt(9);
        d.salt(1);
        Check.is("43 third", 1.0f / 3.0f, d.saltedShare());
        d.salt(2);
        Check.is("43 two thirds", 2.0f / 3.0f, d.saltedShare());
        d.salt(0);
        Check.is("43 all", 1.0f, d.saltedShare());
        d.advance(239);
        Check.is("43 last minute", 1.0f, d.saltedShare());
        d.advance(1);
        Check.is("43 over", 0.0f, d.saltedShare());
        // Three streets melted for three hours: 5 + 5 + (5 - 3) * 3 and twice 5 + (5 - 3) * 3
        Check.is("42 later", 38.0 / 3.0, d.meanDepth());
    }

    private static void promise44() {
        SnowDispatcher d = Towns.full();
        Check.is("44 full", true, d.isConsistent());
        d.addPlough(0);
        d.order(0, 5);
        d.setSnowfall(9);
        d.setWind(7);
        d.advance(600);
        Check.is("44 later", true, d.isConsistent());
        d.undo();
        Check.is("44 undone", true, d.isConsistent());
        Check.is("44 apart", true, Towns.small().isConsistent());
    }

    /** No run of calls leads to a wrong state, so the test puts one in to see that the check finds it. */
    private static void promise44Broken() throws ReflectiveOperationException {
        SnowDispatcher d = Towns.small();
        Object town = in(d, "town");
        Field total = field(town, "complained");
        total.setInt(town, 1);
        Check.is("44 complaints", false, d.isConsistent());
        total.setInt(town, 0);
        int[] snow = (int[]) in(in(town, "streets"), "snow");
        snow[2] = 201;
        Check.is("44 too deep", false, d.isConsistent());
        snow[2] = 200;
        snow[0] = -1;
        Check.is("44 below 0", false, d.isConsistent());
        snow[0] = 0;
        Check.is("44 just right", true, d.isConsistent());
        int[] size = (int[]) in(in(town, "streets"), "size");
        size[0] = -5;
        Check.is("44 distances", false, d.isConsistent());
    }

    private static Object in(Object owner, String name) throws ReflectiveOperationException {
        return field(owner, name).get(owner);
    }

    private static Field field(Object owner, String name) throws ReflectiveOperationException {
        Field field = owner.getClass().getDeclaredField(name);
        field.setAccessible(true);
        return field;
    }
}
