import java.util.regex.Matcher;
import java.util.regex.Pattern;

/** The sentences about scripts, at their bounds: the form, the error position, the buffer, and all or nothing. */
public final class ScriptFormTest {
    private static final Class<IllegalArgumentException> ARGUMENT = IllegalArgumentException.class;
    private static final Class<IllegalStateException> STATE = IllegalStateException.class;
    private static final String WRONG = "throws java.lang.IllegalArgumentException";
    private static final String FAILED = "throws java.lang.IllegalStateException";

    private static final String COMMAND = "(street [0-9] [0-9] [abc][0-9]|plough [0-9]|order [0-9] [0-9][0-9]?[0-9]?"
            + "|cancel [0-9]|salt [0-9][0-9]?[0-9]?|load [0-9][0-9]?[0-9]?|(snow|wind) [0-9]|wait [0-9][0-9]?[0-9]?)";
    private static final Pattern SCRIPT = Pattern.compile(COMMAND + "(;" + COMMAND + ")*");
    private static final String[] COMMANDS = {
        "street 2 3 b4", "plough 5", "order 0 012", "cancel 0", "salt 011", "load 200", "snow 9", "wind 0", "wait 600",
    };

    public static void main(String[] args) {
        everyCharacterEverywhere();
        everyEnd();
        everyPair();
        digits();
        classes();
        numbersOfOneToThreeDigits();
        emptyScript();
        sixtyCharacters();
        mostCommands();
        characters();
        bufferIsEmptyAfterwards();
        argumentsInTheSameOrder();
        failingCommands();
        lastValuesThatRun();
        failedScriptChangesNothing();
        wrongScriptChangesNothing();
        latestOfEachKind();
        Check.end();
    }

    /** A text can go on to a script of the form if matching it ends only because the text does. */
    private static boolean canGoOn(String text) {
        Matcher matcher = SCRIPT.matcher(text);
        return matcher.matches() || matcher.hitEnd();
    }

    private static int errorPosition(String text) {
        for (int length = 1; length <= text.length(); length++) {
            if (!canGoOn(text.substring(0, length))) {
                return length - 1;
            }
        }
        return text.length();
    }

    /** Whether the form of a text is right, and if not where it is wrong, agrees with the pattern. */
    private static void formOf(String text) {
        SnowDispatcher d = new SnowDispatcher();
        Object answer = Towns.run(d, text);
        if (SCRIPT.matcher(text).matches()) {
            Check.is("Scripts: '" + text + "' has the form", false, WRONG.equals(answer));
        } else {
            Check.is("49 '" + text + "' has not the form", WRONG, answer);
            Check.is("50 '" + text + "'", errorPosition(text), d.errorPosition());
        }
    }

    private static void everyCharacterEverywhere() {
        for (String command : COMMANDS) {
            for (int at = 0; at <= command.length(); at++) {
                for (char sign = 32; sign <= 126; sign++) {
                    formOf(command.substring(0, at) + sign);
                    formOf("wind 1;" + command.substring(0, at) + sign + "1");
                    if (at < command.length()) {
                        formOf(command.substring(0, at) + sign + command.substring(at + 1));
                    }
                }
            }
        }
    }

    /** A script that ends too early has its length as its error position. */
    private static void everyEnd() {
        for (String command : COMMANDS) {
            for (int length = 0; length <= command.length(); length++) {
                formOf(command.substring(0, length));
                formOf("snow 1;" + command.substring(0, length));
                formOf(command.substring(0, length) + ";");
                formOf(command.substring(0, length) + ";snow 1");
            }
            SnowDispatcher d = new SnowDispatcher();
            Check.is("49 ends too early", WRONG, Towns.run(d, command + ";"));
            Check.is("50 the length", command.length() + 1, d.errorPosition());
        }
    }

    private static void everyPair() {
        for (String first : COMMANDS) {
            for (String second : COMMANDS) {
                formOf(first + ";" + second);
                formOf(first + ";;" + second);
                formOf(first + second);
                formOf(first + " ;" + second);
                formOf(first + "; " + second);
                formOf(";" + first + ";" + second);
            }
        }
    }

    private static void wrongAt(int due, String script) {
        SnowDispatcher d = new SnowDispatcher();
        Check.is("49 '" + script + "'", WRONG, Towns.run(d, script));
        Check.is("50 '" + script + "'", due, d.errorPosition());
    }

    /** The characters just before 0 and just behind 9 are no digits. */
    private static void digits() {
        for (String command : new String[] {"plough ", "cancel ", "salt ", "load ", "snow ", "wind ", "wait ", "order ",
                "street ", "street 1 ", "street 1 2 a", "order 1 "}) {
            wrongAt(command.length(), command + "/");
            wrongAt(command.length(), command + ":");
            wrongAt(command.length(), command + "-");
            wrongAt(command.length(), command);
        }
        SnowDispatcher d = new SnowDispatcher();
        Check.is("49 digits 0 and 9", 2, Towns.run(d, "snow 0;wind 9"));
        Check.is("49 as they are", "0 9", d.snowfall() + " " + d.wind());
        Check.is("49 digits 9 and 0", 2, Towns.run(d, "snow 9;wind 0"));
        Check.is("49 as they are", "9 0", d.snowfall() + " " + d.wind());
    }

    private static void classes() {
        wrongAt(11, "street 0 1 `1");
        wrongAt(11, "street 0 1 d1");
        wrongAt(11, "street 0 1 A1");
        for (char streetClass = 'a'; streetClass <= 'c'; streetClass++) {
            SnowDispatcher d = new SnowDispatcher();
            Check.is("49 class", 1, Towns.run(d, "street 0 1 " + streetClass + "1"));
            Check.is("14 class", streetClass, d.streetClass(0));
        }
    }

    private static void numbersOfOneToThreeDigits() {
        for (String number : new String[] {"7", "07", "007"}) {
            SnowDispatcher d = new SnowDispatcher();
            Check.is("49 number " + number, 1, Towns.run(d, "wait " + number));
            Check.is("34 number " + number, 7, d.time());
        }
        SnowDispatcher d = new SnowDispatcher();
        Check.is("49 two digits", 2, Towns.run(d, "wait 10;load 99"));
        Check.is("49 their value", "10 99", d.time() + " " + d.saltStore());
        Check.is("49 three digits", 2, Towns.run(d, "wait 123;load 109"));
        Check.is("49 their value", "133 208", d.time() + " " + d.saltStore());
        wrongAt(8, "wait 0001");
        wrongAt(8, "load 1000");
        wrongAt(8, "salt 0000");
        wrongAt(11, "order 0 0001");
        wrongAt(6, "snow 01");
        wrongAt(6, "wind 00");
        wrongAt(8, "plough 01");
        wrongAt(8, "cancel 00");
        wrongAt(7, "order 01 1");
    }

    private static void emptyScript() {
        SnowDispatcher d = new SnowDispatcher();
        Check.refuses("49 empty", ARGUMENT, () -> d.runScript());
        Check.is("50 empty", 0, d.errorPosition());
        Check.refuses("49 no change", java.util.NoSuchElementException.class, () -> d.undo());
    }

    private static void sixtyCharacters() {
        SnowDispatcher d = Twins.fullBuffer();
        Check.is("49 60 characters", 8, d.runScript());
        Check.is("34 all of them", 36, d.time());
        Check.is("49 empty again", 1, d.type('x'));
        wrongAt(60, "wait 1;wait 2;wait 3;wait 4;wait 5;wait 06;wait 007;wait 1;w");
        wrongAt(59, "wait 1;wait 2;wait 3;wait 4;wait 5;wait 06;wait 007;wait 1;");
        wrongAt(59, "wait 1;wait 2;wait 3;wait 4;wait 5;wait 06;wait 007;wait 1;x");
        wrongAt(0, "x".repeat(60));
        wrongAt(0, " ".repeat(60));
    }

    private static void mostCommands() {
        SnowDispatcher d = new SnowDispatcher();
        Check.is("49 one command", 1, Towns.run(d, "wait 1"));
        Check.is("49 eight commands", 8, Towns.run(d, "wait 1;wait 2;wait 3;wait 4;wait 5;wait 6;wait 7;wait 8"));
        Check.is("34", 37, d.time());
        Check.is("49 they are one change", 1, d.undo());
        Check.is("34 undone", 1, d.time());
    }

    private static void characters() {
        SnowDispatcher d = new SnowDispatcher();
        int length = 0;
        for (char sign = 32; sign <= 126; sign++) {
            if (length == 60) {
                Towns.run(d, "");
                length = 0;
            }
            length++;
            Check.is("48 code " + (int) sign, length, d.type(sign));
        }
    }

    private static void bufferIsEmptyAfterwards() {
        SnowDispatcher d = new SnowDispatcher();
        Check.is("49 runs", 1, Towns.run(d, "wait 1"));
        Check.is("48 empty after it ran", 1, d.type('w'));
        Check.is("49 wrong", WRONG, Towns.run(d, ""));
        Check.is("48 empty after a wrong form", 1, d.type('s'));
        Check.is("49 failed", FAILED, Towns.run(d, "alt 0"));
        Check.is("48 empty after a failed command", 1, d.type('w'));
        Check.is("49 goes on from there", 1, Towns.run(d, "ait 1"));
        Check.is("34", 2, d.time());
    }

    private static void argumentsInTheSameOrder() {
        SnowDispatcher d = new SnowDispatcher();
        Check.is("49 streets", 3, Towns.run(d, "street 7 0 c9;street 1 0 a2;street 1 2 b3"));
        Check.is("49 a street", "0:0-7c0cm 9", Towns.streetText(d, 0) + " " + d.length(0));
        Check.is("49 another", "2:1-2b0cm 3", Towns.streetText(d, 2) + " " + d.length(2));
        Check.is("49 ploughs", 2, Towns.run(d, "plough 7;plough 1"));
        Check.is("49 where they are", "7 1", d.junction(0) + " " + d.junction(1));
        Check.is("49 orders", 3, Towns.run(d, "order 1 0;order 1 2;order 0 1"));
        Check.is("49 of plough 1", "0,2", Towns.queueText(d, 1));
        Check.is("49 of plough 0", "1", Towns.queueText(d, 0));
        Check.is("49 salt and weather", 4, Towns.run(d, "load 12;salt 2;snow 8;wind 7"));
        Check.is("49 the store, the rate, the force", "9 8 7", d.saltStore() + " " + d.snowfall() + " " + d.wind());
        Check.is("49 only that street", "false true", d.isSalted(1) + " " + d.isSalted(2));
        Check.is("49 cancel and wait", 2, Towns.run(d, "cancel 1;wait 39"));
        Check.is("49 of plough 1, in work", "0 0", d.queueLength(1) + " " + d.currentStreet(1));
        Check.is("34", 39, d.time());
    }

    private static void fails(Twins.Recipe recipe, String script, int due) {
        SnowDispatcher d = recipe.made();
        Check.is("49 '" + script + "'", FAILED, Towns.run(d, script));
        Check.is("51 '" + script + "'", due, d.failedCommand());
    }

    /** The first values that the methods refuse, as far as a script can write them. */
    private static void failingCommands() {
        Twins.Recipe busy = Twins::busyWithoutText;
        fails(busy, "street 8 0 a1", 0);
        fails(busy, "street 0 8 a1", 0);
        fails(busy, "street 5 5 a1", 0);
        fails(busy, "street 0 5 a0", 0);
        fails(busy, "street 0 1 a1", 0);
        fails(busy, "street 0 3 a1;street 3 0 a1", 1);
        fails(Twins::full, "street 6 7 a1", 0);
        fails(busy, "plough 8", 0);
        fails(busy, "plough 0;plough 0;plough 0", 2);
        fails(busy, "order 2 0", 0);
        fails(busy, "order 1 3", 0);
        fails(busy, "order 1 999", 0);
        fails(busy, "order 0 0", 0);
        fails(busy, "order 1 0;order 1 0;order 1 0;order 1 0;order 1 0;order 1 0", 5);
        fails(busy, "cancel 2", 0);
        fails(busy, "cancel 1", 0);
        fails(busy, "order 1 0;cancel 1;cancel 1", 2);
        fails(busy, "salt 3", 0);
        fails(busy, "salt 0", 0);
        fails(busy, "salt 1", 0);
        fails(busy, "salt 2;salt 2", 1);
        fails(busy, "load 0", 0);
        fails(busy, "load 201", 0);
        fails(Twins::full, "load 1", 0);
        fails(busy, "wait 0", 0);
        fails(busy, "wait 601", 0);
        fails(busy, "wait 1;wait 1;wait 1;wait 1;wait 1;wait 1;wait 1;wait 999", 7);
    }

    private static void lastValuesThatRun() {
        SnowDispatcher d = Twins.busyWithoutText();
        Check.is("49 the last values", 4, Towns.run(d, "street 0 7 c9;plough 7;order 1 3;cancel 0"));
        Check.is("49 the last values", 4, Towns.run(d, "salt 2;load 200;wait 600;wait 1"));
        Check.is("49 the first values", 5, Towns.run(d, "load 1;snow 0;wind 0;street 0 3 a1;order 1 0"));
        Check.is("34", 733, d.time());
    }

    private static void failedScriptChangesNothing() {
        for (String script : new String[] {"wait 600;plough 8", "street 3 4 a1;plough 3;plough 4;plough 5",
                "cancel 0;cancel 0;order 1 0;wait 9;salt 2;salt 2", "salt 2;load 200;snow 1;wind 1;wait 1;load 0",
                "wait 600;wait 600;wait 600;wait 600;wait 600;wait 0"}) {
            SnowDispatcher tried = Twins.busyWithoutText();
            Check.is("49 fails: " + script, FAILED, Towns.run(tried, script));
            Check.is("49 no command takes effect: " + script, Twins.deeds(Twins.busyWithoutText()), Twins.deeds(tried));
        }
    }

    private static void wrongScriptChangesNothing() {
        for (String script : new String[] {"wait 600;plough", "plough 8;x", "snow 1;wind 1;", "wait 1 ", "load 0000"}) {
            SnowDispatcher tried = Twins.busyWithoutText();
            Check.is("49 wrong: " + script, WRONG, Towns.run(tried, script));
            Check.is("51 none failed: " + script, 1, tried.failedCommand());
            Check.is("49 nothing was run: " + script, Twins.deeds(Twins.busyWithoutText()), Twins.deeds(tried));
        }
    }

    private static void latestOfEachKind() {
        SnowDispatcher d = new SnowDispatcher();
        Towns.run(d, "snow x");
        Towns.run(d, "salt 9");
        Check.is("50 and 51 the first ones", "5 0", d.errorPosition() + " " + d.failedCommand());
        Towns.run(d, "");
        Towns.run(d, "snow 1;snow 2;wait 0");
        Check.is("50 and 51 the latest ones", "0 2", d.errorPosition() + " " + d.failedCommand());
        Towns.run(d, "snow 1");
        Check.is("50 and 51 after one that ran", "0 2", d.errorPosition() + " " + d.failedCommand());
        Towns.run(d, "wait");
        Check.is("50 and 51 only a wrong form", "4 2", d.errorPosition() + " " + d.failedCommand());
        Towns.run(d, "wait 000");
        Check.is("50 and 51 only a failed one", "4 0", d.errorPosition() + " " + d.failedCommand());
        Check.refuses("48 only wrong signs are refused", ARGUMENT, () -> d.type((char) 127));
        Check.is("50 and 51 after typing", "4 0", d.errorPosition() + " " + d.failedCommand());
        Check.refuses("54 none", STATE, () -> d.restore());
    }
}
