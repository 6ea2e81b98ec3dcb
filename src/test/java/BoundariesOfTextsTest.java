import java.util.NoSuchElementException;

/** Promises 46 to 52 with the term "Scripts", sentence by sentence: the output text and scripts. */
public final class BoundariesOfTextsTest {
    private static final String NO_FORM = "IllegalArgumentException";
    private static final String FAILED = "IllegalStateException";
    private static final String NUMBER = "number = digit [ digit [ digit ] ]";
    private static final String COMMAND = "command = \"barge \" number \" \" digit ( \"d\" | \"u\" )";
    private static final String ERROR = "is the index of the first character that cannot continue any script of this"
            + " form";
    private static final String TOO_EARLY = "or the length of the script if every character can and the end comes too"
            + " early.";
    private static final Class<?> NO_PLACE = IndexOutOfBoundsException.class;

    public static void main(String[] args) {
        Sentences.run(BoundariesOfTextsTest.class);
    }

    @Of("if there is no such gate")
    static void promise46GatesFrom0To4() {
        ChordCanal canal = new ChordCanal();
        Check.same("first", "0:M0~0,4~0", Canals.output(canal, canal.renderGate(0)));
        Check.same("last", "4:M0~0,4~0", Canals.output(canal, canal.renderGate(4)));
        Check.refusesEach(NO_PLACE, Bad.GATES, Canals::makeBusy, (c, gate) -> c.renderGate(gate));
    }

    @Of("its number, \":\", the demanded kind, and for each string its note, \"~\" and its wear")
    static void promise46NumbersOfOneAndOfTwoDigits() {
        ChordCanal canal = new ChordCanal();
        Canals.wearGateFourTo(canal, 9);
        Check.same("9", "4:M0~9,4~9", Canals.output(canal, canal.renderGate(4)));
        Canals.wearGateFour(canal, 7, 1);
        Check.same("10, and the notes are not the sounds", "4:M0~10,4~10", Canals.output(canal, canal.renderGate(4)));
        Canals.wearGateFour(canal, 8, 10);
        canal.tune(4, 0, 10);
        canal.tune(4, 1, 11);
        canal.setDemand(4, 'a');
        canal.replaceString(4, 0);
        Check.same("20", "4:a10~0,11~20", Canals.output(canal, canal.renderGate(4)));
    }

    @Of("Returns the length of the output text.")
    static void promise46TheShortestAndTheLongestText() {
        ChordCanal canal = new ChordCanal();
        Check.same("shortest", 10, canal.renderGate(4));
        Canals.wearGateFourTo(canal, 20);
        canal.tune(4, 0, 10);
        canal.tune(4, 1, 11);
        Check.same("longest", 14, canal.renderGate(4));
    }

    @Of("Replaces the output text by a description of a gate")
    static void promise46ReplacesALongerText() {
        ChordCanal canal = new ChordCanal();
        canal.renderCanal();
        canal.renderGate(0);
        Check.same("text", "0:M0~0,4~0", Canals.output(canal, 10));
        Check.same("nothing behind it", "IndexOutOfBoundsException", Check.thrownBy(() -> canal.outputAt(10)));
    }

    @Of("and behind the water of each reach \"*\" for each barge in it")
    static void promise47FromNoBargeToEight() {
        ChordCanal canal = new ChordCanal();
        Check.same("none", "60|60|60|60|60|60", Canals.picture(canal));
        canal.addBarge(7, 1, true);
        Check.same("one", "60*|60|60|60|60|60", Canals.picture(canal));
        Canals.addBarges(canal, 7, false);
        Check.same("eight", "60*|60|60|60|60|60*******", Canals.picture(canal));
    }

    @Of("Replaces the output text by the water of all reaches, with \"|\" between two")
    static void promise47WaterOfOneAndOfTwoDigits() {
        ChordCanal canal = new ChordCanal();
        Canals.drain(canal);
        Check.same("0 and 90", "0|60|60|60|60|90", Canals.picture(canal));
        canal.fill(0, 9);
        Check.same("9", "9|60|60|60|60|90", Canals.picture(canal));
        canal.fill(0, 1);
        Check.same("10", "10|60|60|60|60|90", Canals.picture(canal));
    }

    @Of("Returns the length of the output text.")
    static void promise47TheShortestAndTheLongestText() {
        ChordCanal canal = new ChordCanal();
        Canals.drain(canal);
        Check.same("one digit", 16, canal.renderCanal());
        Check.same("all digits and eight barges", 25, Canals.withBarges(8).renderCanal());
    }

    @Of("Returns a character of the output text, which is empty initially.")
    static void promise48ANewCanalHasNoOutput() {
        Check.refusesEach(NO_PLACE, new int[] {0, 1, -1}, c -> { }, (c, index) -> c.outputAt(index));
    }

    @Of("if there is no such index")
    static void promise48IndicesBelowTheLength() {
        ChordCanal canal = new ChordCanal();
        canal.renderCanal();
        Check.same("first and last", "60", canal.outputAt(0) + "" + canal.outputAt(16));
        int[] indices = {17, 18, -1, Integer.MIN_VALUE, Integer.MAX_VALUE};
        Check.refusesEach(NO_PLACE, indices, ChordCanal::renderCanal, (c, index) -> c.outputAt(index));
    }

    @Of("if there is no such index")
    static void promise48AShorterTextHasFewerIndices() {
        ChordCanal canal = new ChordCanal();
        canal.renderCanal();
        canal.renderGate(0);
        Check.same("last", '0', canal.outputAt(9));
        Check.same("behind", "IndexOutOfBoundsException", Check.thrownBy(() -> canal.outputAt(10)));
    }

    @Of("if the character code is not between 32 and 126")
    static void promise49CodesFrom32To126() {
        ChordCanal canal = new ChordCanal();
        Check.same("lowest", 1, canal.type((char) 32));
        Check.same("highest", 2, canal.type((char) 126));
        int[] codes = {31, 127, 0, '\n', 128, 256 + 'h', Character.MAX_VALUE};
        Check.refusesEach(IllegalArgumentException.class, codes, Canals::makeBusy, (c, code) -> c.type((char) code));
    }

    @Of({"if the script buffer has 60 characters", "Appends a character to the script buffer."})
    static void promise49The61stCharacterIsRefused() {
        ChordCanal canal = new ChordCanal();
        Canals.type(canal, "x".repeat(59));
        Check.same("the 60th is not", 60, canal.type('x'));
        Check.refuses("the 61st", IllegalStateException.class, c -> Canals.type(c, "x".repeat(60)), c -> c.type('x'));
    }

    @Of("A script is typed into a buffer of at most 60 characters and then run.")
    static void promise49ARefusedCharacterIsNotInTheScript() {
        ChordCanal canal = new ChordCanal();
        Canals.type(canal, "hour;".repeat(11) + "hour");
        Check.thrownBy(() -> canal.type('\n'));
        Check.same("60th", 60, canal.type(' '));
        Check.thrownBy(() -> canal.type('1'));
        Check.same("the end comes too early", NO_FORM, View.numberOf(canal::runScript));
        Check.same("at 60", 60, canal.errorPosition());
    }

    @Of("If several exceptions apply, the one that is listed first is thrown.")
    static void promise49TheCharacterComesBeforeTheFullBuffer() {
        Check.refusesEach(IllegalArgumentException.class, new int[] {31, 127},
                c -> Canals.type(c, "x".repeat(60)), (c, code) -> c.type((char) code));
    }

    @Of("Returns the length of the script buffer.")
    static void promise49LengthsFrom1To60() {
        ChordCanal canal = new ChordCanal();
        for (int length = 1; length <= 60; length++) {
            Check.same("length", length, canal.type('h'));
        }
    }

    @Of({"Returns the number of commands.", "Runs the script in the script buffer."})
    static void promise50From1To12Commands() {
        Check.same("one", "1", Canals.run(new ChordCanal(), "hour"));
        ChordCanal canal = new ChordCanal();
        Check.same("twelve, the most that 60 characters hold", "12", Canals.run(canal, "hour;".repeat(11) + "hour"));
        Check.same("time", 12, canal.time());
    }

    @Of("A script is typed into a buffer of at most 60 characters and then run.")
    static void promise50AScriptOf60CharactersRuns() {
        ChordCanal canal = new ChordCanal();
        String script = "barge 007 1d;tune 4 1 004;fill 0 030;demand 0 M;hour;fix 0 0";
        Check.same("length", 60, script.length());
        Check.same("commands", "6", Canals.run(canal, script));
        Check.same("the last two ran", "1 0 1", canal.time() + " " + canal.wear(0, 0) + " " + canal.wear(0, 1));
    }

    @Of("if the script does not have the required form; errorPosition then returns its error position")
    static void promise50TheEmptyScriptHasNoForm() {
        ChordCanal canal = new ChordCanal();
        Check.same("empty", NO_FORM, View.numberOf(canal::runScript));
        Check.same("error position", 0, canal.errorPosition());
    }

    @Of("The buffer is empty afterwards, also if an exception is thrown.")
    static void promise50TheBufferIsEmptyAfterEachEnd() {
        String[] scripts = {"hour", "", "hour ", "x", "leave 0", "hour;leave 9", "x".repeat(60)};
        for (String script : scripts) {
            ChordCanal canal = new ChordCanal();
            Canals.run(canal, script);
            Check.same("after " + script, 1, canal.type('h'));
            Canals.type(canal, "our");
            Check.same("the next script", "1", View.numberOf(canal::runScript));
        }
    }

    @Of("A method that throws an exception changes nothing unless its description says otherwise.")
    static void promise50AScriptThatIsRefusedChangesNothingElse() {
        String due = afterScripts();
        Check.same("no form", due, afterScripts("hour;flow 1;fill 0 1;h"));
        Check.same("no end", due, afterScripts("hour;leave 0;"));
        Check.same("the first command fails", due, afterScripts("leave 9;hour;barge 1 1d"));
        Check.same("the last command fails", due, afterScripts("barge 1 1d;tune 0 0 9;hour 9;leave 1;hour 0"));
        Check.same("several", due, afterScripts("x", "hour;leave 9", "", "hour;hour 101"));
    }

    /** All of a canal after scripts that are refused, but for what is told of the scripts. */
    private static String afterScripts(String... scripts) {
        ChordCanal canal = new ChordCanal();
        Canals.addBarges(canal, 2, true);
        canal.advance(3);
        canal.save();
        canal.setInflow(5);
        canal.renderGate(1);
        for (String script : scripts) {
            Canals.run(canal, script);
        }
        return View.ofAll(canal).replaceAll("error \\w+, failed \\w+", "");
    }

    @Of("and either all of them take effect or none.")
    static void promise50TheLastCommandMayFailAndNoneTakesEffect() {
        ChordCanal canal = new ChordCanal();
        Check.same("the last one", FAILED, Canals.run(canal, "barge 7 1d;tune 0 0 5;fix 1 1;flow 9;fill 5 1;hour 0"));
        Check.same("nothing", View.of(new ChordCanal()), View.of(canal));
        Check.same("nothing to undo", "NoSuchElementException", Check.thrownBy(canal::undo));
        Check.same("no id is taken", 0, canal.addBarge(7, 1, true));
    }

    @Of("The commands are executed in order")
    static void promise50EachCommandFindsWhatThoseBeforeItDid() {
        Check.same("a barge of the same script", "3", Canals.run(new ChordCanal(), "barge 7 1d;hour;leave 0"));
        Check.same("too early", FAILED, Canals.run(new ChordCanal(), "leave 0;barge 7 1d"));
        Check.same("just full", "2", Canals.run(new ChordCanal(), "fill 0 29;fill 0 1"));
        ChordCanal canal = new ChordCanal();
        Check.same("too full", FAILED, Canals.run(canal, "fill 0 29;hour;fill 0 1"));
        Check.same("the third", 2, canal.failedCommand());
    }

    @Of("hour without a number advances by 1 hour.")
    static void promise50HourAlone() {
        ChordCanal canal = new ChordCanal();
        Canals.run(canal, "hour");
        Check.same("alone", 1, canal.time());
        Canals.run(canal, "hour 5;hour;hour 2");
        Check.same("between others", 9, canal.time());
    }

    @Of(NUMBER)
    static void promise50NumbersOfOneToThreeDigits() {
        String[] scripts = {"hour 5", "hour 05", "hour 005"};
        for (String script : scripts) {
            ChordCanal canal = new ChordCanal();
            Check.same(script, "1 5", Canals.run(canal, script) + " " + canal.time());
        }
        errors("hour 0005", 8);
        errors("leave 0000", 9);
        errors("fill 0 0001", 10);
        errors("tune 0 0 0001", 12);
        errors("barge 0007 1d", 9);
        errors("hour ", 5);
    }

    @Of(NUMBER)
    static void promise50NumbersFrom0To999() {
        Check.same("0 hours", FAILED, Canals.run(new ChordCanal(), "hour 0"));
        Check.same("1 hour", "1", Canals.run(new ChordCanal(), "hour 1"));
        Check.same("100 hours", "1", Canals.run(new ChordCanal(), "hour 100"));
        Check.same("101 hours", FAILED, Canals.run(new ChordCanal(), "hour 101"));
        Check.same("999 hours", FAILED, Canals.run(new ChordCanal(), "hour 999"));
        Check.same("999 units", FAILED, Canals.run(new ChordCanal(), "fill 0 999"));
        Check.same("barge 999", FAILED, Canals.run(new ChordCanal(), "leave 999"));
        Check.same("note 999", FAILED, Canals.run(new ChordCanal(), "tune 0 0 999"));
    }

    private static void errors(String script, int position) {
        ChordCanal canal = new ChordCanal();
        Check.same(script, NO_FORM, Canals.run(canal, script));
        Check.same("error position of " + script, position, canal.errorPosition());
    }

    @Of({COMMAND, "brackets an optional part, and a bar an alternative."})
    static void promise50ADigitIsOneDigit() {
        errors("barge 7 11d", 9);
        errors("tune 00 0 1", 6);
        errors("tune 0 00 1", 8);
        errors("fix 00 0", 5);
        errors("fix 0 00", 7);
        errors("demand 00 M", 8);
        errors("flow 00", 6);
        errors("fill 00 1", 6);
    }

    @Of(COMMAND)
    static void promise50TheEndsOfTheDigits() {
        Check.same("9", "1", Canals.run(new ChordCanal(), "flow 9"));
        Check.same("0", "1", Canals.run(new ChordCanal(), "flow 0"));
        errors("flow /", 5);
        errors("flow :", 5);
        errors("hour /", 5);
        errors("hour 1:", 6);
    }

    @Of("kind = \"M\" | \"m\" | \"d\" | \"a\"")
    static void promise50TheKinds() {
        for (char kind : "mdaM".toCharArray()) {
            ChordCanal canal = new ChordCanal();
            Check.same("kind", "1 " + kind, Canals.run(canal, "demand 3 " + kind) + " " + canal.demand(3));
        }
        errors("demand 3 D", 9);
        errors("demand 3 A", 9);
        errors("demand 3 u", 9);
        errors("demand 3 -", 9);
    }

    @Of("The commands stand for addBarge (d for down, u for up)")
    static void promise50TheArgumentsStandInTheSameOrder() {
        ChordCanal canal = new ChordCanal();
        Canals.run(canal, "barge 3 8d;barge 8 3u;tune 4 1 2;fill 1 5;fill 5 1");
        Check.same("barges", "3 8 true, 8 3 false", canal.noteOf(0) + " " + canal.draughtOf(0) + " "
                + canal.isGoingDown(0) + ", " + canal.noteOf(1) + " " + canal.draughtOf(1) + " "
                + canal.isGoingDown(1));
        Check.same("string", "2 4", canal.note(4, 1) + " " + canal.note(1, 1));
        Check.same("water", "65 61", canal.water(1) + " " + canal.water(5));
        errors("barge 7 1D", 9);
        errors("barge 7 1U", 9);
        errors("barge 7 1", 9);
    }

    @Of({"script = command { \";\" command }", "where braces mean zero or more repetitions"})
    static void promise50CommandsHaveOneSemicolonBetweenThem() {
        Check.same("two", "2", Canals.run(new ChordCanal(), "hour;flow 1"));
        errors(";", 0);
        errors(";hour", 0);
        errors("hour;", 5);
        errors("hour;;hour", 5);
        errors("hour,hour", 4);
        errors("hourhour", 4);
        errors("flow 1flow 2", 6);
        errors("hour 123hour", 8);
        errors("hour hour", 5);
        errors("hour; hour", 5);
        errors("hour ;hour", 5);
        errors(" hour", 0);
        errors("hour 1 ", 6);
        errors("flow 1 ", 6);
    }

    @Of("if the method for a command throws an exception; no command takes effect")
    static void promise50EachCommandMayFail() {
        String[] commands = {"barge 12 1d", "barge 0 0d", "tune 5 0 0", "tune 0 2 0", "tune 0 0 12", "fix 5 0",
            "fix 0 2", "demand 5 M", "fill 6 1", "fill 0 0", "fill 0 91", "fill 0 31", "leave 0", "hour 0", "hour 101"};
        for (String command : commands) {
            ChordCanal canal = new ChordCanal();
            Check.same(command, FAILED, Canals.run(canal, "hour;" + command));
            Check.same(command, "1 0", canal.failedCommand() + " " + canal.time());
        }
        ChordCanal full = Canals.withBarges(8);
        Check.same("a ninth barge", FAILED, Canals.run(full, "barge 0 1d"));
    }

    @Of("If several exceptions apply, the one that is listed first is thrown.")
    static void promise50TheFormComesBeforeTheCommands() {
        ChordCanal canal = new ChordCanal();
        Check.same("leave 9 would fail", NO_FORM, Canals.run(canal, "leave 9;hour;"));
        Check.same("no command failed", "NoSuchElementException", Check.thrownBy(canal::failedCommand));
    }

    @Of(ERROR)
    static void promise51TheFirstCharacterThatCannotGoOn() {
        errors("x", 0);
        errors("hx", 1);
        errors("houR", 3);
        errors("hourx", 4);
        errors("hour x", 5);
        errors("hour 12x", 7);
        errors("hour 123x", 8);
        errors("hour;x", 5);
        errors("HOUR", 0);
    }

    @Of(ERROR)
    static void promise51CommandsThatBeginAlike() {
        errors("fa", 1);
        errors("fia", 2);
        errors("fixl", 3);
        errors("filx", 3);
        errors("flx", 2);
        errors("flow0", 4);
    }

    @Of(ERROR)
    static void promise51InTheLastOf60Characters() {
        errors("hour;".repeat(11) + "houx ", 58);
        errors("hour;".repeat(11) + "hourx", 59);
    }

    @Of(TOO_EARLY)
    static void promise51EveryBeginningOfEachCommandIsTooShort() {
        String[] commands = {"barge 7 1d", "barge 123 9u", "tune 0 1 2", "fix 0 1", "demand 0 M", "flow 1", "fill 0 1",
            "leave 0"};
        for (String command : commands) {
            for (int length = 0; length < command.length(); length++) {
                errors(command.substring(0, length), length);
                errors("hour;" + command.substring(0, length), 5 + length);
            }
        }
        for (int length = 0; length < 4; length++) {
            errors("hour".substring(0, length), length);
        }
        errors("hour ", 5);
    }

    @Of(TOO_EARLY)
    static void promise51AFullBufferMayEndTooEarly() {
        errors("hour;".repeat(12), 60);
        errors("hour;".repeat(11) + "hour ", 60);
    }

    @Of("if there was no such script")
    static void promise51NoScriptWithoutTheForm() {
        Class<?> due = NoSuchElementException.class;
        Check.refuses("new", due, c -> { }, ChordCanal::errorPosition);
        Check.refuses("a good script", due, c -> Canals.run(c, "hour"), ChordCanal::errorPosition);
        Check.refuses("a failed command", due, c -> Canals.run(c, "leave 0"), ChordCanal::errorPosition);
        Check.refuses("not run yet", due, c -> Canals.type(c, "x"), ChordCanal::errorPosition);
    }

    @Of("Returns the error position of the latest script that did not have the required form.")
    static void promise51TheLatestOneCounts() {
        ChordCanal canal = new ChordCanal();
        Canals.run(canal, "hour;x");
        Canals.run(canal, "hour");
        Canals.run(canal, "leave 0");
        Check.same("after good ones", 5, canal.errorPosition());
        Check.same("asked again", 5, canal.errorPosition());
        Canals.run(canal, "");
        Check.same("a later one", 0, canal.errorPosition());
    }

    @Of("if there was no such script")
    static void promise52NoScriptWithAFailedCommand() {
        Class<?> due = NoSuchElementException.class;
        Check.refuses("new", due, c -> { }, ChordCanal::failedCommand);
        Check.refuses("a good script", due, c -> Canals.run(c, "hour"), ChordCanal::failedCommand);
        Check.refuses("no form", due, c -> Canals.run(c, "leave 0;x"), ChordCanal::failedCommand);
        Check.refuses("a call", due, c -> Check.thrownBy(() -> c.removeBarge(0)), ChordCanal::failedCommand);
    }

    @Of("Returns the index of the command that failed in the latest script with a failed command.")
    static void promise52TheLatestOneCounts() {
        ChordCanal canal = new ChordCanal();
        Canals.run(canal, "hour;leave 0");
        Canals.run(canal, "hour");
        Canals.run(canal, "x");
        Check.same("after others", 1, canal.failedCommand());
        Check.same("asked again", 1, canal.failedCommand());
        Canals.run(canal, "leave 0;hour");
        Check.same("a later one", 0, canal.failedCommand());
    }

    @Of("Returns the index of the command, counted from 0.")
    static void promise52From0To10() {
        for (int index = 0; index <= 10; index++) {
            ChordCanal canal = new ChordCanal();
            String rest = index < 9 ? ";leave 1" : "";
            Check.same("fails", FAILED, Canals.run(canal, "hour;".repeat(index) + "leave 0" + rest));
            Check.same("index", index, canal.failedCommand());
        }
    }
}
