import java.util.List;

/** The boundaries of the command text: promises 28 to 30, and the term "TEXTS OF COMMANDS". */
public final class TextEdgeTest {
    private static final Edges E = new Edges();
    private static final String FAULT = "The fault of a command text is the index of the first byte that cannot "
        + "stand at its place, or the length of the text if it ends too soon.";
    private static final String WORD = "each of which is a word of letters a to z, followed by its numbers,";
    private static final String NUMBER = "each of one to five digits (zeros in front are allowed; a sixth digit "
        + "cannot stand) and with at least one space (byte 32) in front, and a semicolon.";
    private static final String SPACES = "Spaces may also stand in front of a command, in front of a semicolon, "
        + "and at the end.";
    private static final String THE_WORDS = "The words are: tank h (begin(h)), level l (setLevel(l)), flow q "
        + "(setFlow(q)), foam f (setFoam(f)), thing d s (addThing(d, s)), blades n a b v w (setStirrer(n, a, "
        + "b, v, w)), set k v (set(k, v)), learn n (learn(n)), shoot n (shoot(n)).";
    private static final String OTHER_WORD = "A word that is not one of these is at fault with its first byte, "
        + "found when the word is complete: when a byte that is no letter, or the end of the text, follows it.";
    private static final String NO_FAULT = "(That a number is out of its range is no fault.)";
    private static final String[] WORDS = {"tank", "level", "flow", "foam", "thing", "blades", "set", "learn", "shoot"};
    private static final int[] NUMBERS = {1, 1, 1, 1, 2, 5, 2, 1, 1};

    public static void main(String[] args) {
        typeRange();
        mostBytes();
        typeTellsTheFirstException();
        typeSavesNothing();
        clearAnswersTheLength();
        emptyTexts();
        faultAnswers();
        faultsOfPrefixes();
        everyByteAheadOfACommand();
        everyByteBehindAWord();
        everyByteBehindASpace();
        everyByteBehindANumber();
        everyByteBehindTheLastNumber();
        everyByteInAFullNumber();
        everyByteBehindACommand();
        fiveDigits();
        zerosInFront();
        spacesInFrontOfNumbers();
        otherSpaces();
        lettersAreSmall();
        wordsAreWhole();
        everyLetterOfAWordCounts();
        wordsAreFoundWhenComplete();
        numbersOfEachWord();
        fullText();
        firstFaultCounts();
        faultyTextsDoNothing();
        commandsStopAtTheFirstRefusal();
        commandsDoWhatTheirCallsDo();
        rangesOfCommands();
        numbersOutOfRangeAreNoFault();
        aRunSavesOneState();
        theTextStays();
        E.end();
    }

    private static EchoGauge withText(String text) {
        EchoGauge g = new EchoGauge();
        Edges.typeAll(g, text);
        return g;
    }

    private static void faultIs(String text, int fault) {
        EchoGauge g = withText(text);
        E.due("run of '" + text + "'", g.runCommands(), -10 - fault);
        E.due("states behind '" + text + "'", Edges.undo(g), Edges.NOTHING_TO_UNDO);
    }

    private static void runs(String text, int commands) {
        E.due("run of '" + text + "'", withText(text).runCommands(), commands);
    }

    // ---- promises 28 and 29

    private static void typeRange() {
        E.sentence("`value`: 0 to 127");
        E.range("type", 0, 127, Edges::fresh, EchoGauge::type);
        E.range("type", 0, 127, Edges::busy, EchoGauge::type);
        E.refused("type(-1) of a full one", Edges.ARGUMENT, Edges::full, g -> g.type(-1));
    }

    private static EchoGauge withSpaces(int count) {
        return withText(" ".repeat(count));
    }

    private static void mostBytes() {
        E.sentence("Throws `IllegalStateException` if the text has 150 bytes");
        E.due("the first byte", withSpaces(0).type(' '), 1);
        E.due("the 149th byte", withSpaces(148).type(' '), 149);
        E.due("the 150th byte", withSpaces(149).type(' '), 150);
        E.due("the 150th byte", withSpaces(149).type(0), 150);
        for (int value : new int[] {0, 1, 32, 126, 127}) {
            E.refused("the 151st byte", Edges.STATE, () -> withSpaces(150), g -> g.type(value));
            E.refused("the 151st byte of a full one", Edges.STATE, Edges::full, g -> g.type(value));
        }
    }

    private static void typeTellsTheFirstException() {
        E.sentence("If several exceptions of a method apply, the one that is listed first is thrown.");
        for (int value : new int[] {-1, 128, Integer.MIN_VALUE, Integer.MAX_VALUE}) {
            E.refused("type(" + value + ") behind 149", Edges.ARGUMENT, () -> withSpaces(149), g -> g.type(value));
            E.refused("type(" + value + ") behind 150", Edges.ARGUMENT, () -> withSpaces(150), g -> g.type(value));
            E.refused("type(" + value + ") of a full one", Edges.ARGUMENT, Edges::full, g -> g.type(value));
        }
    }

    private static void typeSavesNothing() {
        E.sentence("Appends a byte to the command text.");
        E.refused("undo behind type()", Edges.STATE, () -> withText("level 5;"), EchoGauge::undo);
        E.refused("undo behind clearCommands()", Edges.STATE, () -> {
            EchoGauge g = withText("level 5;");
            g.clearCommands();
            return g;
        }, EchoGauge::undo);
    }

    private static void clearAnswersTheLength() {
        E.sentence("Returns the length that it had.");
        for (int length : new int[] {0, 1, 149, 150}) {
            EchoGauge g = withSpaces(length);
            E.due("clearCommands", g.clearCommands(), length);
            E.due("clearCommands again", g.clearCommands(), 0);
            E.due("the first byte behind it", g.type('x'), 1);
        }
    }

    // ---- promise 30

    private static void emptyTexts() {
        E.sentence("It is a sequence of commands (perhaps none: a text that is empty, or has spaces alone, has "
            + "no fault),");
        for (int length : new int[] {0, 1, 2, 149, 150}) {
            EchoGauge g = withSpaces(length);
            E.due("run of " + length + " spaces", g.runCommands(), 0);
            E.due("it saves a state", g.undo(), 0);
        }
        faultIs("\t", 0);
        faultIs("\0", 0);
        faultIs(" \n", 1);
        faultIs("  ;", 2);
    }

    private static void faultAnswers() {
        E.sentence("Returns the number of commands that were carried out; -10 minus the fault if it has one.");
        E.due("fault 0", withText(";").runCommands(), -10);
        E.due("fault 1", withText(" ;").runCommands(), -11);
        E.due("fault 149", withText(" ".repeat(149) + ";").runCommands(), -159);
        E.due("fault 150", withText(" ".repeat(144) + "flow 1").runCommands(), -160);
        E.due("no commands", withText(" ").runCommands(), 0);
        E.due("one command", withText("flow 1;").runCommands(), 1);
        E.due("21 commands", withText("flow 1;".repeat(21)).runCommands(), 21);
    }

    private static void faultsOfPrefixes() {
        E.sentence(FAULT);
        String text = " blades 1 20  300 4 5 ;flow 00001;";
        int firstWordEnds = " blades".length();
        int firstEnds = text.indexOf(';') + 1;
        int secondWordEnds = firstEnds + "flow".length();
        for (int length = 0; length <= text.length(); length++) {
            String prefix = text.substring(0, length);
            if (length <= 1 || length == firstEnds || length == text.length()) {
                runs(prefix, length == text.length() ? 2 : length == firstEnds ? 1 : 0);
            } else if (length < firstWordEnds) {
                faultIs(prefix, 1);
            } else if (length > firstEnds && length < secondWordEnds) {
                faultIs(prefix, firstEnds);
            } else {
                faultIs(prefix, length);
            }
        }
    }

    /** Asks with every byte at the end of a text; the bytes that may stand there leave it at fault for its end. */
    private static void bytesThatCanStand(String before, String allowed, int otherwise) {
        for (int value = 0; value <= 127; value++) {
            String text = before + (char) value;
            boolean stands = allowed.indexOf(value) >= 0;
            EchoGauge g = withText(text);
            int answer = g.runCommands();
            E.due("byte " + value + " behind '" + before + "'", answer, stands ? -10 - text.length() : -10 - otherwise);
        }
    }

    private static void everyByteAheadOfACommand() {
        E.sentence(WORD);
        for (String before : new String[] {"", " ", "   "}) {
            for (int value = 0; value <= 127; value++) {
                if (value == ' ') {
                    runs(before + ' ', 0);
                } else {
                    faultIs(before + (char) value, before.length());
                }
            }
        }
    }

    private static void everyByteBehindAWord() {
        E.sentence(NUMBER);
        for (String word : WORDS) {
            for (int value = 0; value <= 127; value++) {
                String text = word + (char) value;
                boolean letter = value >= 'a' && value <= 'z';
                faultIs(text, letter ? 0 : value == ' ' ? text.length() : word.length());
            }
        }
    }

    private static void everyByteBehindASpace() {
        E.sentence(NUMBER);
        bytesThatCanStand("flow ", " 0123456789", 5);
        bytesThatCanStand("flow  ", " 0123456789", 6);
        bytesThatCanStand("thing 1 ", " 0123456789", 8);
        bytesThatCanStand("blades 1 2 3 4 ", " 0123456789", 15);
    }

    private static void everyByteBehindANumber() {
        E.sentence(NUMBER);
        bytesThatCanStand("thing 1", " 0123456789", 7);
        bytesThatCanStand("thing 1234", " 0123456789", 10);
        bytesThatCanStand("thing 12345", " ", 11);
        bytesThatCanStand("blades 1 2 3 40000", " ", 18);
    }

    private static void everyByteBehindTheLastNumber() {
        E.sentence(SPACES);
        for (String before : new String[] {"flow 1", "flow 1234", "set 0 1"}) {
            for (int value = 0; value <= 127; value++) {
                String text = before + (char) value;
                if (value == ';') {
                    E.due("run of '" + text + "'", withText(text).runCommands() >= 0, true);
                } else {
                    faultIs(text, value == ' ' || value >= '0' && value <= '9' ? text.length() : before.length());
                }
            }
        }
        for (int value = 0; value <= 127; value++) {
            if (value != ';') {
                faultIs("flow 1 " + (char) value, value == ' ' ? 8 : 7);
            }
        }
    }

    private static void everyByteInAFullNumber() {
        E.sentence("a sixth digit cannot stand");
        for (int value = 0; value <= 127; value++) {
            if (value != ';') {
                faultIs("flow 00001" + (char) value, value == ' ' ? 11 : 10);
            }
        }
    }

    private static void everyByteBehindACommand() {
        E.sentence(SPACES);
        for (String before : new String[] {"flow 1;", "flow 1; "}) {
            for (int value = 0; value <= 127; value++) {
                if (value == ' ') {
                    runs(before + ' ', 1);
                } else {
                    faultIs(before + (char) value, before.length());
                }
            }
        }
    }

    private static void fiveDigits() {
        E.sentence("each of one to five digits (zeros in front are allowed; a sixth digit cannot stand)");
        runs("level 1;", 1);
        runs("level 1999;", 1);
        runs("level 02000;", 1);
        faultIs("level ;", 6);
        faultIs("level 012345;", 11);
        faultIs("level 1234567;", 11);
        faultIs("thing 123456 1;", 11);
        faultIs("thing 1 123456;", 13);
        EchoGauge g = new EchoGauge();
        Edges.run(g, "tank 10000;level 10000;");
        E.due("level", g.tank(1), 10000);
        Edges.run(g, "level 9;");
        E.due("level", g.tank(1), 9);
        Edges.run(g, "level 9876;");
        E.due("level", g.tank(1), 9876);
    }

    private static void zerosInFront() {
        E.sentence("zeros in front are allowed; a sixth digit cannot stand");
        for (String number : new String[] {"7", "07", "007", "0007", "00007"}) {
            EchoGauge g = new EchoGauge();
            E.due("run of " + number, Edges.run(g, "flow " + number + ";"), 1);
            E.due("flow of " + number, g.tank(2), 7);
        }
        faultIs("flow 000007;", 10);
        EchoGauge none = new EchoGauge();
        none.setFlow(5);
        E.due("zeros alone", Edges.run(none, "flow 00000;"), 1);
        E.due("zeros alone", none.tank(2), 0);
        faultIs("flow 000000;", 10);
    }

    private static void spacesInFrontOfNumbers() {
        E.sentence("and with at least one space (byte 32) in front, and a semicolon.");
        faultIs("flow5;", 4);
        runs("flow 5;", 1);
        runs("flow  5;", 1);
        runs("flow" + " ".repeat(144) + "5;", 1);
        runs("thing 5 6;", 1);
        runs("thing 5  6;", 1);
        faultIs("thing 56;", 8);
        faultIs("flow\0375;", 4);
        faultIs("flow!5;", 4);
        faultIs("flow\t5;", 4);
    }

    private static void otherSpaces() {
        E.sentence(SPACES);
        runs(" flow 5;", 1);
        runs("   flow 5;", 1);
        runs("flow 5 ;", 1);
        runs("flow 5   ;", 1);
        runs("flow 5; ", 1);
        runs("flow 5;   flow 6;", 2);
        runs("  flow 5  ;  flow 6  ;  ", 2);
        faultIs("fl ow 5;", 0);
        faultIs("flow 5 0;", 7);
        faultIs("thing 5 0 0;", 10);
        faultIs("flow 5; ;", 8);
        faultIs("flow 5;;", 7);
    }

    private static void lettersAreSmall() {
        E.sentence(WORD);
        faultIs("Flow 5;", 0);
        faultIs("FLOW 5;", 0);
        faultIs("flOw 5;", 0);
        faultIs("floW 5;", 0);
        faultIs("flowW 5;", 4);
        faultIs("flow` 5;", 4);
        faultIs("flow{ 5;", 4);
        faultIs("flowa 5;", 0);
        faultIs("flowz 5;", 0);
        faultIs("a 5;", 0);
        faultIs("z 5;", 0);
        faultIs("` 5;", 0);
        faultIs("{ 5;", 0);
    }

    private static void wordsAreWhole() {
        E.sentence(THE_WORDS);
        for (int i = 0; i < WORDS.length; i++) {
            String word = WORDS[i];
            faultIs(word, word.length());
            faultIs(word.substring(0, word.length() - 1), 0);
            faultIs(word.substring(1), 0);
            faultIs(word + word.charAt(0), 0);
            faultIs(word + "s", 0);
            faultIs(word + word + " 1;", 0);
            faultIs(word + WORDS[(i + 1) % WORDS.length] + " 1;", 0);
        }
        for (String word : new String[] {"begin", "mask", "forget", "undo", "s", "thing" + "s", "blade", "shot"}) {
            faultIs(word + " 1;", 0);
        }
    }

    private static void everyLetterOfAWordCounts() {
        E.sentence(OTHER_WORD);
        for (int i = 0; i < WORDS.length; i++) {
            for (int at = 0; at < WORDS[i].length(); at++) {
                char other = WORDS[i].charAt(at) == 'a' ? 'z' : (char) (WORDS[i].charAt(at) - 1);
                String word = WORDS[i].substring(0, at) + other + WORDS[i].substring(at + 1);
                faultIs("flow 1;" + word + " 1".repeat(NUMBERS[i]) + ";", 7);
            }
        }
    }

    private static void wordsAreFoundWhenComplete() {
        E.sentence(OTHER_WORD);
        faultIs("flo", 0);
        faultIs("flo ", 0);
        faultIs("flo!", 0);
        faultIs("flo5", 0);
        faultIs("flox", 0);
        faultIs("  flo", 2);
        faultIs("flow 1;flo", 7);
        faultIs("flow 1; flo;", 8);
        faultIs("x".repeat(150), 0);
        faultIs(" ".repeat(149) + "x", 149);
        faultIs(" ".repeat(146) + "flow", 150);
        faultIs(" ".repeat(147) + "flo", 147);
        faultIs("flow", 4);
        faultIs("flow!", 4);
    }

    private static String command(String word, int numbers) {
        return word + " 1".repeat(numbers) + ";";
    }

    private static void numbersOfEachWord() {
        E.sentence(THE_WORDS);
        for (int i = 0; i < WORDS.length; i++) {
            String word = WORDS[i];
            for (int numbers = 0; numbers <= 6; numbers++) {
                String text = command(word, numbers);
                if (numbers < NUMBERS[i]) {
                    faultIs(text, text.length() - 1);
                } else if (numbers > NUMBERS[i]) {
                    faultIs(text, word.length() + 2 * NUMBERS[i] + 1);
                } else {
                    E.due("no fault in '" + text + "'", withText(text).runCommands() >= 0, true);
                }
            }
        }
    }

    private static void fullText() {
        E.sentence("The command text has at most 150 bytes.");
        runs("flow 1;" + " ".repeat(142), 1);
        runs("flow 1;" + " ".repeat(143), 1);
        runs(" ".repeat(143) + "flow 1;", 1);
        faultIs(" ".repeat(144) + "flow 1", 150);
        faultIs(" ".repeat(143) + "flow 1", 149);
        runs("flow 1;".repeat(20) + "flow  001;", 21);
        faultIs("flow 1;".repeat(21) + "flo", 147);
        EchoGauge g = withText(" ".repeat(143) + "flow 1;");
        g.runCommands();
        E.due("flow", g.tank(2), 1);
        E.due("length", g.clearCommands(), 150);
        faultIs("flow 1", 6);
        E.due("the bytes behind a cleared text are gone", shorter("flow 123;", "flow 1"), -16);
        E.due("the bytes behind a cleared text are gone", shorter("flow 1;;", "flow 1;"), 1);
    }

    private static int shorter(String first, String second) {
        EchoGauge g = withText(first);
        return Edges.run(g, second);
    }

    private static void firstFaultCounts() {
        E.sentence(FAULT);
        faultIs("flow 1;x 1;y 1;", 7);
        faultIs("flow x;x 1;", 5);
        faultIs("flow 1;flow 1!;!", 13);
        faultIs("flow 1;flow 1;flow 1", 20);
    }

    private static void faultyTextsDoNothing() {
        E.sentence("To run a command text means: if it has a fault, nothing is done;");
        String[] texts = {"flow 7", "flow 7;x", "shoot 5;shoot", "tank 700;level", ";", "flow 1;".repeat(21) + "x"};
        for (String text : texts) {
            EchoGauge asked = withText(text);
            asked.runCommands();
            E.due("a run of '" + text + "' changes nothing",
                Edges.future(asked).equals(Edges.future(withText(text))), true);
        }
    }

    private static void commandsStopAtTheFirstRefusal() {
        E.sentence("otherwise the commands are carried out in their order, until one of them would throw an "
            + "exception, which is not thrown; those before it stay done, and they alone count.");
        String[] refused = {"tank 499;", "level 2001;", "flow 201;", "foam 501;", "thing 10001 1;", "thing 1 101;",
            "thing 1 0;", "blades 7 1 2 3 4;", "set 12 0;", "learn 51;", "shoot 501;"};
        for (String command : refused) {
            for (int before = 0; before <= 2; before++) {
                EchoGauge g = new EchoGauge();
                E.due(before + " ahead of " + command, Edges.run(g, "foam 1;foam 2;".substring(0, 7 * before) + command
                    + "foam 9;shoot 1;"), before);
                E.due("foam", g.tank(3), before);
                E.due("shots", g.gauge(0), 0);
                E.due("states", g.undo(), 0);
                E.due("foam behind undo", g.tank(3), 0);
            }
        }
        EchoGauge six = Edges.full();
        E.due("a seventh thing", Edges.run(six, "foam 1;thing 1 1;foam 2;"), 1);
        E.due("things", six.tank(4), 6);
        E.due("foam", six.tank(3), 1);
        EchoGauge deeper = new EchoGauge();
        E.due("each is asked behind those before it",
            Edges.run(deeper, "tank 3000;level 3000;tank 2999;level 3000;"), 3);
        E.due("H", deeper.tank(0), 2999);
    }

    private static void commandsDoWhatTheirCallsDo() {
        E.sentence(THE_WORDS);
        does("tank 700;", g -> g.begin(700));
        does("level 701;", g -> g.setLevel(701));
        does("flow 8;", g -> g.setFlow(8));
        does("foam 9;", g -> g.setFoam(9));
        does("thing 333 44;", g -> g.addThing(333, 44));
        does("blades 5 111 222 333 88;", g -> g.setStirrer(5, 111, 222, 333, 88));
        does("set 7 13;", g -> g.set(7, 13));
        does("set 6 2;", g -> g.set(6, 2));
        does("learn 3;", g -> g.learn(3));
        does("shoot 4;", g -> g.shoot(4));
        does("set 5 1;shoot 9;level 77;", g -> g.set(5, 1) + g.shoot(9) + g.setLevel(77));
    }

    private static void does(String text, Edges.Call call) {
        EchoGauge told = Edges.busy();
        Edges.run(told, text);
        EchoGauge called = Edges.busy();
        List<Long> before = Edges.values(called);
        call.on(called);
        E.due("'" + text + "' changes something", Edges.values(told).equals(before), false);
        E.due("'" + text + "' does what the call does", Edges.values(told).equals(Edges.values(called)), true);
    }

    /** At the boundary, one step inside and one step outside of each number of each word. */
    private static void rangesOfCommands() {
        E.sentence(NO_FAULT);
        commandRange("tank ", ";", 500, 10000);
        commandRange("level ", ";", 0, 2000);
        commandRange("flow ", ";", 0, 200);
        commandRange("foam ", ";", 0, 500);
        commandRange("thing ", " 50;", 0, 10000);
        commandRange("thing 50 ", ";", 1, 100);
        commandRange("blades ", " 300 600 47 20;", 0, 6);
        commandRange("blades 2 ", " 600 47 20;", 0, 599);
        commandRange("blades 2 300 ", " 47 20;", 301, 10000);
        commandRange("blades 2 300 600 ", " 20;", 0, 359);
        commandRange("blades 2 300 600 47 ", ";", 0, 90);
        commandRange("learn ", ";", 1, 50);
        commandRange("shoot ", ";", 1, 500);
        int[] least = {0, 0, 1, 0, 0, 0, 1, 1, 1, 0, 200, 0};
        int[] most = {100, 20, 100, 20, 1, 2, 9, 20, 99, 1800, 10000, 500};
        for (int what = 0; what < 12; what++) {
            commandRange("set " + what + " ", ";", least[what], most[what]);
        }
        for (int limit : new int[] {299, 300, 301}) {
            EchoGauge g = new EchoGauge();
            g.set(10, 300);
            E.due("low limit " + limit + " and high limit 300", Edges.run(g, "set 9 " + limit + ";"),
                limit > 300 ? 0 : 1);
            EchoGauge told = new EchoGauge();
            E.due("high limit " + limit + " behind low limit 300", Edges.run(told, "set 9 300;set 10 " + limit + ";"),
                limit < 300 ? 1 : 2);
        }
        runs("set 11 1;", 1);
        runs("set 12 1;", 0);
        runs("set 99999 1;", 0);
    }

    private static void commandRange(String before, String behind, int least, int most) {
        for (int value : new int[] {least - 1, least, least + 1, most - 1, most, most + 1, 99999}) {
            if (value >= 0) {
                runs(before + value + behind, value >= least && value <= most ? 1 : 0);
            }
        }
    }

    private static void numbersOutOfRangeAreNoFault() {
        E.sentence(NO_FAULT);
        for (int i = 0; i < WORDS.length; i++) {
            String text = WORDS[i] + " 99999".repeat(NUMBERS[i]) + ";";
            EchoGauge g = withText(text);
            E.due("run of '" + text + "'", g.runCommands(), 0);
            E.due("it saves a state", g.undo(), 0);
            runs(text + "flow 1;", 0);
            faultIs(text + "x", text.length());
        }
    }

    private static void aRunSavesOneState() {
        E.sentence("A run saves one state, the one from before it; its commands save none.");
        String[] texts = {"", "tank 3000;", "tank 3000;level 9;", "flow 9;foam 9;thing 9 9;blades 2 1 2 3 4;set 0 9;",
            "level 9;foam 9;thing 9 9;shoot 9;learn 9;tank 600;"};
        int[] commands = {0, 1, 2, 5, 6};
        for (int i = 0; i < texts.length; i++) {
            EchoGauge g = new EchoGauge();
            g.setFoam(3);
            E.due("run", Edges.run(g, texts[i]), commands[i]);
            E.due("states", g.undo(), 1);
            E.due("H", g.tank(0), 2000);
            E.due("level", g.tank(1), 500);
            E.due("foam", g.tank(3), 3);
            E.due("things", g.tank(4), 0);
            E.due("shots", g.gauge(0), 0);
            E.due("states", g.undo(), 0);
            E.due("foam", g.tank(3), 0);
        }
    }

    private static void theTextStays() {
        E.sentence("Runs the command text, which stays as it is. Undoable, if it has no fault.");
        EchoGauge g = withText("foam 1;tank 600;");
        E.due("run", g.runCommands(), 2);
        E.due("run again", g.runCommands(), 2);
        E.due("length of the text", g.type(' '), 17);
        E.due("run again", g.runCommands(), 2);
        E.due("states", g.undo(), 2);
        E.due("run behind undo", g.runCommands(), 2);
        E.due("length of the text", g.clearCommands(), 17);
    }
}
