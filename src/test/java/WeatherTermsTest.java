/** The sentences under 'Terms' of the document, each at its bounds: salt, weather, minutes and the end of an hour. */
public final class WeatherTermsTest {
    private static final Class<IllegalStateException> STATE = IllegalStateException.class;
    private static final Class<UnsupportedOperationException> UNSUPPORTED = UnsupportedOperationException.class;

    public static void main(String[] args) {
        storeHolds500();
        saltTakesTheLength();
        saltedFor240Minutes();
        notSaltedAtFirst();
        ratesAndForces();
        hourEnds();
        minutesOneByOne();
        saltInTheLastHour();
        ploughsBeforeTheHour();
        snowNotAbove200();
        saltNotBelow0();
        meltsAfterTheSnow();
        noDriftWithFewStreets();
        aQuarterAtMost();
        theForceAtMost();
        driftGoesRound();
        driftAllAtOnce();
        driftOf200();
        complaintsAreLast();
        Check.end();
    }

    private static void storeHolds500() {
        SnowDispatcher d = new SnowDispatcher();
        Check.is("Salt: initially 0", 0, d.saltStore());
        d.loadSalt(200);
        d.loadSalt(200);
        d.loadSalt(99);
        Check.refuses("Salt: 501", UNSUPPORTED, () -> d.loadSalt(2));
        Check.is("Salt: 500", 500, d.loadSalt(1));
        Check.refuses("Salt: more than 500", UNSUPPORTED, () -> d.loadSalt(1));
    }

    private static void saltTakesTheLength() {
        for (int length = 1; length <= 9; length++) {
            SnowDispatcher d = new SnowDispatcher();
            d.addStreet(0, 1, 'c', length);
            Check.refuses("Salt: an empty store, length " + length, STATE, () -> d.salt(0));
            if (length > 1) {
                d.loadSalt(length - 1);
                Check.refuses("Salt: a unit too few, length " + length, STATE, () -> d.salt(0));
            }
            d.loadSalt(1);
            Check.is("Salt: just enough, length " + length, 0, d.salt(0));
            d.undo();
            d.loadSalt(1);
            Check.is("Salt: one unit more, length " + length, 1, d.salt(0));
        }
    }

    private static void saltedFor240Minutes() {
        for (int start : new int[] {0, 1, 59, 60, 61, 239, 240, 599}) {
            SnowDispatcher d = new SnowDispatcher();
            d.addStreet(0, 1, 'a', 1);
            d.loadSalt(2);
            if (start > 0) {
                d.advance(start);
            }
            d.salt(0);
            Check.is("Salt: no minute has passed", "true 240", d.isSalted(0) + " " + d.saltMinutes(0));
            Check.refuses("Salt: at once again", UNSUPPORTED, () -> d.salt(0));
            d.advance(239);
            Check.is("Salt: 239 have passed", "true 1", d.isSalted(0) + " " + d.saltMinutes(0));
            Check.refuses("Salt: not again before 240", UNSUPPORTED, () -> d.salt(0));
            d.advance(1);
            Check.is("Salt: 240 have passed", false, d.isSalted(0));
            Check.is("Salt: again at 240", 0, d.salt(0));
            Check.is("Salt: for 240 more", 240, d.saltMinutes(0));
        }
    }

    private static void notSaltedAtFirst() {
        SnowDispatcher d = new SnowDispatcher();
        d.addStreet(0, 1, 'a', 1);
        Check.is("Salt: a new street at time 0", false, d.isSalted(0));
        d.advance(239);
        Check.is("Salt: a new street at time 239", false, d.isSalted(0));
        d.addStreet(1, 2, 'a', 1);
        Check.is("Salt: a street that is added later", false, d.isSalted(1));
        d.loadSalt(9);
        d.salt(1);
        d.undo();
        Check.is("Salt: undone", false, d.isSalted(1));
        d.salt(1);
        d.undo();
        d.undo();
        d.undo();
        d.addStreet(1, 2, 'a', 1);
        Check.is("Salt: added anew", false, d.isSalted(1));
    }

    private static void ratesAndForces() {
        SnowDispatcher d = new SnowDispatcher();
        Check.is("Weather: both are initially 0", "0 0", d.snowfall() + " " + d.wind());
        for (int level = 0; level <= 9; level++) {
            Check.is("Weather: rate before " + level, Math.max(0, level - 1), d.setSnowfall(level));
            Check.is("Weather: rate " + level, level, d.snowfall());
            Check.is("Weather: force before " + level, Math.max(0, level - 1), d.setWind(level));
            Check.is("Weather: force " + level, level, d.wind());
        }
        d.addStreet(0, 1, 'a', 1);
        for (int rate = 0; rate <= 9; rate++) {
            int before = d.depth(0);
            d.setSnowfall(rate);
            d.advance(60);
            Check.is("Weather: centimetres of an hour at rate " + rate, before + rate, d.depth(0));
        }
    }

    private static void hourEnds() {
        SnowDispatcher d = new SnowDispatcher();
        d.addStreet(0, 1, 'a', 1);
        d.setSnowfall(1);
        int depth = 0;
        for (int hour = 1; hour <= 10; hour++) {
            d.advance(59);
            Check.is("One minute: a minute before hour " + hour, depth, d.depth(0));
            d.advance(1);
            depth++;
            Check.is("One minute: at hour " + hour, depth, d.depth(0));
        }
        d.advance(59);
        d.advance(2);
        Check.is("One minute: across an hour", 11, d.depth(0));
        d.advance(58);
        Check.is("One minute: just before the next", 11, d.depth(0));
        d.advance(600);
        Check.is("One minute: ten hours", 21, d.depth(0));
    }

    private static void minutesOneByOne() {
        SnowDispatcher once = Twins.busy();
        SnowDispatcher often = Twins.busy();
        int cleared = once.advance(150);
        for (int minute = 0; minute < 150; minute++) {
            cleared -= often.advance(1);
        }
        Check.is("One minute: as many clearings", 0, cleared);
        Check.is("One minute: the same one by one", Twins.state(once), Twins.state(often));
    }

    private static void saltInTheLastHour() {
        for (int start = 0; start <= 1; start++) {
            SnowDispatcher d = Towns.snowy('c', 27);
            d.loadSalt(1);
            if (start > 0) {
                d.advance(start);
            }
            d.salt(0);
            d.advance(180);
            Check.is("One minute: three hours of salt", 18, d.depth(0));
            d.advance(60);
            // The time increases first: at the hour 240 or 239 minutes have passed.
            Check.is("One minute: the fourth hour from minute " + start, start == 0 ? 18 : 15, d.depth(0));
            d.advance(60);
            Check.is("One minute: salt is over", start == 0 ? 18 : 15, d.depth(0));
        }
    }

    private static void ploughsBeforeTheHour() {
        SnowDispatcher d = Towns.snowy('a', 20);
        d.addPlough(0);
        d.setSnowfall(7);
        d.advance(56);
        d.order(0, 0);
        Check.is("One minute: cleared in the minute of the hour", 1, d.advance(4));
        Check.is("One minute: then snow falls", 7, d.depth(0));
        Check.is("One minute: what lay there before", 20, d.ploughedTotal());
        SnowDispatcher late = Towns.snowy('a', 20);
        late.addPlough(0);
        late.setSnowfall(7);
        late.advance(57);
        late.order(0, 0);
        Check.is("One minute: not before the hour", 0, late.advance(3));
        Check.is("One minute: with the snow of the hour", 27, late.depth(0));
        late.advance(1);
        Check.is("One minute: cleared after the hour", "0 27", late.depth(0) + " " + late.ploughedTotal());
    }

    private static void snowNotAbove200() {
        for (int before : new int[] {190, 191, 192, 199, 200}) {
            SnowDispatcher d = Towns.snowy('a', before);
            d.setSnowfall(9);
            d.advance(60);
            Check.is("The end of an hour: 9 more on " + before, Math.min(200, before + 9), d.depth(0));
        }
        SnowDispatcher salted = Towns.snowy('a', 199);
        salted.loadSalt(1);
        salted.salt(0);
        salted.setSnowfall(9);
        salted.advance(60);
        Check.is("The end of an hour: salt after the bound of 200", 197, salted.depth(0));
    }

    private static void saltNotBelow0() {
        for (int before = 0; before <= 5; before++) {
            SnowDispatcher d = Towns.snowy('a', before);
            d.loadSalt(1);
            d.salt(0);
            d.advance(60);
            Check.is("The end of an hour: 3 less of " + before, Math.max(0, before - 3), d.depth(0));
        }
        SnowDispatcher apart = Towns.snowy('a', 9, 9, 9);
        apart.loadSalt(1);
        apart.salt(1);
        apart.advance(60);
        Check.is("The end of an hour: only the salted street", "9 6 9", Towns.depths(apart));
    }

    private static void meltsAfterTheSnow() {
        SnowDispatcher d = Towns.snowy('a', 0);
        d.loadSalt(1);
        d.salt(0);
        d.setSnowfall(2);
        d.advance(60);
        Check.is("The end of an hour: the snow of the hour melts too", 0, d.depth(0));
        d.setSnowfall(4);
        d.advance(60);
        Check.is("The end of an hour: what salt leaves of it", 1, d.depth(0));
    }

    private static void noDriftWithFewStreets() {
        SnowDispatcher none = new SnowDispatcher();
        none.setWind(9);
        Check.is("The end of an hour: no street", 0, none.advance(60));
        SnowDispatcher one = Towns.snowy('a', 100);
        one.setWind(9);
        one.advance(600);
        Check.is("The end of an hour: one street", 100, one.depth(0));
        SnowDispatcher two = Towns.snowy('a', 100, 8);
        two.setWind(9);
        two.advance(60);
        Check.is("The end of an hour: two streets", "93 15", Towns.depths(two));
    }

    private static void aQuarterAtMost() {
        int[] quarters = {0, 0, 0, 0, 1, 1, 1, 1, 2, 2, 2, 2, 3};
        for (int depth = 0; depth < quarters.length; depth++) {
            SnowDispatcher d = Towns.snowy('a', depth, 0, 0);
            d.setWind(9);
            d.advance(60);
            String due = depth - quarters[depth] + " " + quarters[depth] + " 0";
            Check.is("The end of an hour: a quarter of " + depth, due, Towns.depths(d));
        }
    }

    private static void theForceAtMost() {
        for (int force = 0; force <= 9; force++) {
            for (int depth = 4 * force - 1; depth <= 4 * force + 4; depth++) {
                SnowDispatcher d = Towns.snowy('a', Math.max(0, depth), 0);
                d.setWind(force);
                d.advance(60);
                int due = depth < 4 * force ? Math.max(0, force - 1) : force;
                Check.is("The end of an hour: force " + force + " on " + depth, Math.max(0, depth) - due, d.depth(0));
                Check.is("The end of an hour: it arrives", due, d.depth(1));
            }
        }
    }

    private static void driftGoesRound() {
        SnowDispatcher d = Towns.full();
        d.addPlough(0);
        Towns.snow(d, 20);
        clearAllBut(d, 11);
        Check.is("The end of an hour: only the last has snow", "0 0 0 0 0 0 0 0 0 0 0 20", Towns.depths(d));
        d.setWind(3);
        d.advance(60);
        Check.is("The end of an hour: from the last to street 0", "3 0 0 0 0 0 0 0 0 0 0 17", Towns.depths(d));
    }

    private static void clearAllBut(SnowDispatcher d, int kept) {
        for (int street = 0; street < d.streetCount(); street++) {
            if (street != kept) {
                d.order(0, street);
                d.advance(1);
                d.advance(d.busyMinutes(0));
            }
        }
    }

    private static void driftAllAtOnce() {
        SnowDispatcher d = Towns.snowy('a', 40, 3, 2);
        d.setWind(4);
        d.advance(60);
        // Street 1 gives a quarter of 3, not of what it gets.
        Check.is("The end of an hour: all at once", "36 7 2", Towns.depths(d));
        SnowDispatcher even = Towns.snowy('a', 40, 40, 40);
        even.setWind(9);
        even.advance(600);
        Check.is("The end of an hour: as much comes as goes", "40 40 40", Towns.depths(even));
        SnowDispatcher last = Towns.snowy('a', 8, 8, 7);
        last.setWind(9);
        last.advance(60);
        // Street 0 gives a quarter of 8, not of what is left or arrives; the last one gives a quarter of 7.
        Check.is("The end of an hour: the last before street 0 gives", "7 8 8", Towns.depths(last));
    }

    private static void driftOf200() {
        SnowDispatcher d = Towns.snowy('a', 200, 200, 199);
        d.setWind(9);
        d.advance(60);
        Check.is("The end of an hour: 200 stays 200", "200 200 199", Towns.depths(d));
        SnowDispatcher two = Towns.snowy('a', 200, 36);
        two.setWind(9);
        two.advance(60);
        Check.is("The end of an hour: at 200 and at four times the force", "200 36", Towns.depths(two));
        SnowDispatcher less = Towns.snowy('a', 200, 35);
        less.setWind(9);
        less.advance(60);
        Check.is("The end of an hour: at 200 and below it", "199 36", Towns.depths(less));
    }

    private static void complaintsAreLast() {
        SnowDispatcher d = Towns.snowy('a', 6, 5, 5);
        int before = d.complaintTotal();
        d.setWind(1);
        d.advance(60);
        Check.is("The end of an hour: the drift leaves it", "6 5 5", Towns.depths(d));
        Check.is("The end of an hour: one about the overdue one", before + 1, d.complaintTotal());
        d.setWind(0);
        d.setSnowfall(1);
        d.loadSalt(1);
        d.salt(0);
        d.advance(60);
        // 4 6 6: street 0 is no longer overdue.
        Check.is("The end of an hour: after the snow and the salt", before + 3, d.complaintTotal());
        Check.is("The end of an hour: about each of the others", "1 1", d.complaints(1) + " " + d.complaints(2));
        SnowDispatcher drifted = Towns.snowy('a', 8, 5, 0);
        int about0 = drifted.complaints(0);
        drifted.setWind(9);
        drifted.advance(60);
        // 6 6 1: street 1 is overdue by what drifts.
        Check.is("The end of an hour: after the drift", "6 6 1", Towns.depths(drifted));
        Check.is("The end of an hour: about both", about0 + 1 + " 1 0",
                drifted.complaints(0) + " " + drifted.complaints(1) + " " + drifted.complaints(2));
    }
}
