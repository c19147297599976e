import java.util.NoSuchElementException;

/** The boundary cases of "Scripts" and of promises 47 to 50. */
final class ScriptsBounds {
    private static final Class<IllegalArgumentException> ARGUMENT = IllegalArgumentException.class;
    private static final Class<IllegalStateException> STATE = IllegalStateException.class;
    private static final Class<NoSuchElementException> NOTHING = NoSuchElementException.class;
    /** Each command once, with the numbers of two digits. */
    private static final String[] COMMANDS = {"vault 3", "put 0 g12", "take 0 m12", "swap 0 mh12", "mint 0 12",
        "melt 0 12", "audit 0", "rate h12", "stick 0 7", "day 12"};
    private static final String[] COMMANDS_OF_ONE_DIGIT = {"vault 3", "put 0 g1", "take 0 m1", "swap 0 mh1", "mint 0 1",
        "melt 0 1", "audit 0", "rate h1", "stick 0 7", "day"};
    /** In each of these the last command fails on a rich treasury. */
    private static final String[] FAILING = {"put 1 g1", "put 0 g0", "put 0 g31", "put 0 g99", "take 1 g1", "take 0 g0",
        "take 0 g31", "swap 1 gm1", "swap 0 gg1", "swap 0 gm0", "swap 0 gm31", "swap 0 hg30", "mint 1 1", "mint 0 0",
        "melt 1 1", "melt 0 0", "melt 0 31", "audit 1", "rate g0", "rate g51", "stick 1 0", "day 0", "day 31",
        "put 0 g30;put 0 g30;put 0 g10", "take 0 g30;take 0 g1", "swap 0 gm30;swap 0 gm1",
        "vault 0;vault 0;vault 0;vault 0;vault 0", "take 0 h30;take 0 m30;take 0 g30",
        "take 0 h30;mint 0 99;mint 0 99;mint 0 13"};

    private ScriptsBounds() {
    }

    static void run() {
        Sentence.testEach(ScriptsBounds::bufferOf60, ScriptsBounds::scriptOfCommands, ScriptsBounds::formsOfCommands,
            ScriptsBounds::digitsOfCommands, ScriptsBounds::kinds, ScriptsBounds::numbers, ScriptsBounds::optionalParts,
            ScriptsBounds::dayWithoutNumber, ScriptsBounds::argumentsInOrder, ScriptsBounds::allOrNone,
            ScriptsBounds::firstCharacterThatCannotContinue, ScriptsBounds::alternatives, ScriptsBounds::endTooEarly,
            ScriptsBounds::promise47Length, ScriptsBounds::promise47Code, ScriptsBounds::promise47Full,
            ScriptsBounds::promise48Empty, ScriptsBounds::promise48Count, ScriptsBounds::promise48Form,
            ScriptsBounds::promise48Failure, ScriptsBounds::promise48FailureOfEachMethod, ScriptsBounds::promise49None,
            ScriptsBounds::promise49Latest, ScriptsBounds::promise50None, ScriptsBounds::promise50Latest);
    }

    private static Sentence scripts(String text) {
        return Sentence.ofSection("Scripts", text);
    }

    /** One vault with 30 flies of each kind, 30 drops and no stickiness; its buffer is empty. */
    private static FlyTreasury rich() {
        FlyTreasury x = new FlyTreasury();
        x.addVault(0);
        for (char kind : new char[] {'g', 'm', 'h'}) {
            x.deposit(0, kind, 30);
        }
        x.mint(0, 30);
        return x;
    }

    private static void runs(Sentence s, String text) {
        Object answer = Treasuries.run(rich(), text);
        s.same("'" + text + "' runs", answer instanceof Integer, true);
    }

    /** The script has the form, but a command fails. */
    private static void hasForm(Sentence s, String text) {
        s.same("'" + text + "'", Treasuries.run(rich(), text), STATE.getName());
    }

    private static void hasNoForm(Sentence s, String text, int position) {
        FlyTreasury x = rich();
        s.same("'" + text + "'", Treasuries.run(x, text), ARGUMENT.getName());
        s.same("error position in '" + text + "'", Check.outcome(() -> x.errorPosition()), position);
    }

    private static void bufferOf60() {
        Sentence s = scripts("A script is typed into a buffer of at most 60 characters and then run.");
        String days = "day;".repeat(14);
        FlyTreasury x = new FlyTreasury();
        s.same("59 characters", Treasuries.run(x, days + "day"), 15);
        Treasuries.type(x, days + "da");
        s.same("character 59", x.type('y'), 59);
        s.same("character 60", x.type(';'), 60);
        s.fails("character 61", STATE, () -> x.type('d'));
        s.fails("60 characters without the form", ARGUMENT, () -> x.runScript());
        s.same("60 characters with it", Treasuries.run(x, "day 30;".repeat(7) + "day;rate g9"), 9);
        s.same("its days", x.day(), 15 + 211);
        s.same("its last command", x.rate('g'), 9);
    }

    private static void scriptOfCommands() {
        Sentence s = scripts("script = command { \";\" command");
        hasNoForm(s, "", 0);
        hasNoForm(s, ";", 0);
        hasNoForm(s, ";day", 0);
        runs(s, "day");
        hasNoForm(s, "day;", 4);
        runs(s, "day;day");
        hasNoForm(s, "day;;day", 4);
        hasNoForm(s, "day,day", 3);
        hasNoForm(s, "day; day", 4);
        hasNoForm(s, "day day", 4);
        hasNoForm(s, "dayday", 3);
        hasNoForm(s, " day", 0);
        runs(s, "day;".repeat(14) + "day");
        for (String command : COMMANDS) {
            runs(s, command);
            runs(s, command + ";" + command);
            hasNoForm(s, command + ";", command.length() + 1);
            hasNoForm(s, command + ";;" + command, command.length() + 1);
            hasNoForm(s, command + " ", command.length());
            hasNoForm(s, command + "0", command.length());
        }
    }

    private static final String COMMAND = "command = \"vault \" digit | \"put \" digit \" \" kind number | "
        + "\"take \" digit \" \" kind number | \"swap \" digit \" \" kind kind number | \"mint \" digit \" \" number | "
        + "\"melt \" digit \" \" number | \"audit \" digit | \"rate \" kind number | \"stick \" digit \" \" digit | "
        + "\"day\" [ \" \" number ]";

    private static void formsOfCommands() {
        Sentence s = scripts(COMMAND);
        for (String command : COMMANDS) {
            String word = command.split(" ")[0];
            runs(s, command);
            hasNoForm(s, word + "x" + command.substring(word.length()), word.length());
            hasNoForm(s, word.substring(0, 1).toUpperCase() + command.substring(1), 0);
            hasNoForm(s, command.replace(" ", ""), word.length());
            hasNoForm(s, command.replace(" ", "  "), word.length() + 1);
        }
        for (String command : new String[] {"put 0g1", "take 0g1", "swap 0gm1", "mint 01", "melt 01", "stick 01"}) {
            hasNoForm(s, command, command.indexOf('0') + 1);
        }
        for (String command : new String[] {"put 0 1", "take 0 1", "swap 0 1", "swap 0 g1", "rate 1"}) {
            hasNoForm(s, command, command.lastIndexOf('1'));
        }
        hasNoForm(s, "put 0 gg1", 7);
        hasNoForm(s, "rate gg1", 6);
        hasNoForm(s, "swap 0 gmh1", 9);
        hasNoForm(s, "put g1", 4);
        hasNoForm(s, "mint g1", 5);
        hasNoForm(s, "rate 0 g1", 5);
    }

    /** Where the form has a digit, 0 to 9 stand and not their neighbours, and one alone. */
    private static void digitsOfCommands() {
        Sentence s = scripts(COMMAND);
        String[][] forms = {{"vault ", ""}, {"put ", " g1"}, {"take ", " g1"}, {"swap ", " gm1"}, {"mint ", " 1"},
            {"melt ", " 1"}, {"audit ", ""}, {"stick ", " 0"}, {"stick 0 ", ""}};
        for (String[] form : forms) {
            runs(s, form[0] + "0" + form[1]);
            hasNoForm(s, form[0] + "/" + form[1], form[0].length());
            hasNoForm(s, form[0] + ":" + form[1], form[0].length());
            hasNoForm(s, form[0] + "-1" + form[1], form[0].length());
            hasNoForm(s, form[0] + "00" + form[1], form[0].length() + 1);
        }
        runs(s, "vault 9");
        runs(s, "stick 0 9");
        for (String command : new String[] {"put 9 g1", "take 9 g1", "swap 9 gm1", "mint 9 1", "melt 9 1", "audit 9",
            "stick 9 0"}) {
            hasForm(s, command);
        }
    }

    private static void kinds() {
        Sentence s = scripts("kind = \"g\" | \"m\" | \"h\"");
        String[][] forms = {{"put 0 ", "1"}, {"take 0 ", "1"}, {"rate ", "1"}, {"swap 0 ", "m1"}, {"swap 0 ", "g1"},
            {"swap 0 g", "1"}, {"swap 0 m", "1"}};
        for (String[] form : forms) {
            for (String kind : new String[] {"g", "m", "h"}) {
                Object answer = Treasuries.run(rich(), form[0] + kind + form[1]);
                s.same(form[0] + kind + form[1] + " has the form", !ARGUMENT.getName().equals(answer), true);
            }
            for (char wrong : new char[] {'f', 'i', 'l', 'n', 'G', 'M', 'H', ' ', '0', ';', '~'}) {
                hasNoForm(s, form[0] + wrong + form[1], form[0].length());
            }
        }
        hasForm(s, "swap 0 gg1");
        hasForm(s, "swap 0 mm1");
        hasForm(s, "swap 0 hh1");
    }

    private static void numbers() {
        Sentence s = scripts("number = digit [ digit ]");
        for (String form : new String[] {"put 0 g", "take 0 g", "swap 0 gm", "mint 0 ", "melt 0 ", "rate g", "day "}) {
            runs(s, form + "1");
            runs(s, form + "01");
            runs(s, form + "10");
            runs(s, form + "09");
            hasForm(s, form + "0");
            hasForm(s, form + "00");
            hasNoForm(s, form, form.length());
            hasNoForm(s, form + "001", form.length() + 2);
            hasNoForm(s, form + "100", form.length() + 2);
            hasNoForm(s, form + "-1", form.length());
            hasNoForm(s, form + "/", form.length());
            hasNoForm(s, form + ":", form.length());
            hasNoForm(s, form + "1/", form.length() + 1);
            hasNoForm(s, form + "1:", form.length() + 1);
            hasNoForm(s, form + "1 1", form.length() + 1);
        }
        runs(s, "mint 0 99");
        FlyTreasury x = rich();
        Treasuries.run(x, "mint 0 99");
        s.same("99", x.dew(0), 129);
        Treasuries.run(x, "melt 0 90;melt 0 09");
        s.same("90 and 09", x.dew(0), 30);
    }

    private static void optionalParts() {
        Sentence s = scripts("where braces mean zero or more repetitions, brackets an optional part, and a bar an "
            + "alternative.");
        FlyTreasury x = new FlyTreasury();
        s.same("no repetition", Treasuries.run(x, "day"), 1);
        s.same("many", Treasuries.run(x, "day" + ";day".repeat(14)), 15);
        s.same("days", x.day(), 16);
        Treasuries.run(x, "day 2;day 30");
        s.same("with the optional parts", x.day(), 48);
        s.same("without one, with another", Treasuries.run(x, "day;rate g7;rate g10"), 3);
        s.same("the last of them", x.rate('g'), 10);
    }

    private static void dayWithoutNumber() {
        Sentence s = scripts("day without a number passes 1 day.");
        FlyTreasury x = rich();
        Treasuries.run(x, "day");
        s.same("day", x.day(), 1);
        Treasuries.run(x, "day 9;day");
        s.same("after one with a number", x.day(), 11);
        s.same("drops", x.evaporatedTotal(), 11);
    }

    private static final String METHODS = "The commands stand for the methods addVault, deposit, withdraw, exchange, "
        + "mint, redeem, audit, setRate, setStickiness and passDays with the arguments in the order of the parameters;";

    /** Each command has the same effect as its method, with the least and the greatest arguments that it takes. */
    private static void argumentsInOrder() {
        Sentence s = scripts(METHODS);
        alike(s, "vault 0;vault 9", x -> x.addVault(0) + x.addVault(9));
        alike(s, "put 0 g1;put 0 m30;put 0 h30",
            x -> x.deposit(0, 'g', 1) + x.deposit(0, 'm', 30) + x.deposit(0, 'h', 30));
        alike(s, "take 0 g1;take 0 m30", x -> x.withdraw(0, 'g', 1) + x.withdraw(0, 'm', 30));
        alike(s, "swap 0 gm1;swap 0 hm2", x -> x.exchange(0, 'g', 'm', 1) + x.exchange(0, 'h', 'm', 2));
        alike(s, "swap 0 gh29;swap 0 mh1", x -> x.exchange(0, 'g', 'h', 29) + x.exchange(0, 'm', 'h', 1));
        alike(s, "mint 0 1;mint 0 99", x -> x.mint(0, 1) + x.mint(0, 99));
        alike(s, "melt 0 1;melt 0 29", x -> x.redeem(0, 1) + x.redeem(0, 29));
        alike(s, "audit 0;audit 0", x -> x.audit(0) && x.audit(0));
        alike(s, "rate g1;rate m50;rate h19", x -> x.setRate('g', 1) + x.setRate('m', 50) + x.setRate('h', 19));
        alike(s, "stick 0 9;stick 0 1", x -> x.setStickiness(0, 9) + x.setStickiness(0, 1));
        alike(s, "day;day 1;day 30", x -> x.passDays(1) + x.passDays(1) + x.passDays(30));
    }

    private static void alike(Sentence s, String script, Sentence.Call calls) {
        FlyTreasury byScript = rich();
        FlyTreasury byCalls = rich();
        Treasuries.run(byScript, script);
        calls.on(byCalls);
        s.same("'" + script + "', what is seen afterwards", Trace.look(byScript), Trace.look(byCalls));
    }

    private static void allOrNone() {
        Sentence s = scripts("The commands are executed in order, and either all of them take effect or none.");
        FlyTreasury x = new FlyTreasury();
        s.same("each needs those before it", Treasuries.run(x, "vault 0;put 0 h3;mint 0 60;melt 0 60;take 0 h3"), 5);
        s.same("the other way round", Treasuries.run(x, "mint 0 60;put 0 h3"), STATE.getName());
        s.same("all 15", Treasuries.run(x, "day" + ";day".repeat(14)), 15);
        s.same("15 days", x.day(), 15);
        s.same("the last of 14 fails", Treasuries.run(x, "day;".repeat(13) + "audit 9"), STATE.getName());
        s.same("no day", x.day(), 15);
        for (String command : COMMANDS) {
            FlyTreasury y = rich();
            s.same(command + ", then a failure", Treasuries.run(y, command + ";day 0"), STATE.getName());
            FlyTreasury z = rich();
            Treasuries.run(z, "day;day 0");
            s.same(command + ", what is seen afterwards", Trace.of(y), Trace.of(z));
        }
        FlyTreasury z = rich();
        Treasuries.run(z, "day;day 0");
        s.same("no day of a failure", z.day(), 0);
    }

    private static final String POSITION = "The error position of a script that does not have this form is the index "
        + "of the first character that cannot continue any script of this form, or the length of the script if every "
        + "character can and the end comes too early.";

    private static void firstCharacterThatCannotContinue() {
        Sentence s = scripts(POSITION);
        for (String command : COMMANDS) {
            for (int i = 0; i <= command.length(); i++) {
                hasNoForm(s, command.substring(0, i) + "!" + command.substring(i), i);
                hasNoForm(s, command.substring(0, i) + "!", i);
                hasNoForm(s, "day;" + command.substring(0, i) + "!!", 4 + i);
            }
        }
        hasNoForm(s, "x".repeat(60), 0);
        hasNoForm(s, "day;".repeat(14) + "day!", 59);
        hasNoForm(s, "day;".repeat(14) + "dax;", 58);
        hasNoForm(s, "!day;!", 0);
        hasNoForm(s, "audit 9;take 9 g0;day 0;!", 24);
    }

    private static void alternatives() {
        Sentence s = scripts(POSITION);
        String[] beginnings = {"v", "p", "t", "s", "m", "a", "r", "d"};
        for (String beginning : beginnings) {
            hasNoForm(s, beginning, 1);
            hasNoForm(s, beginning + beginning, 1);
        }
        hasNoForm(s, "sw", 2);
        hasNoForm(s, "st", 2);
        hasNoForm(s, "swick 0 1", 2);
        hasNoForm(s, "stap 0 gm1", 2);
        hasNoForm(s, "mi", 2);
        hasNoForm(s, "me", 2);
        hasNoForm(s, "milt 0 1", 2);
        hasNoForm(s, "ment 0 1", 2);
        hasNoForm(s, "meld 0 1", 3);
        hasNoForm(s, "date 0", 2);
    }

    private static void endTooEarly() {
        Sentence s = scripts(POSITION);
        for (String command : COMMANDS_OF_ONE_DIGIT) {
            for (int end = 0; end < command.length(); end++) {
                hasNoForm(s, command.substring(0, end), end);
                hasNoForm(s, "day 1;" + command.substring(0, end), 6 + end);
            }
        }
        hasNoForm(s, "day ", 4);
        hasNoForm(s, "day;".repeat(14) + "da", 58);
        hasNoForm(s, "day;".repeat(15), 60);
        hasNoForm(s, "day 1;".repeat(9) + "mint 0", 60);
        hasNoForm(s, "day 1;".repeat(9) + "day 1;", 60);
    }

    private static void promise47Length() {
        Sentence s = Sentence.ofPromise(47, "Returns the length of the script buffer.");
        FlyTreasury x = new FlyTreasury();
        for (int length = 1; length <= 60; length++) {
            s.same("length", x.type('d'), length);
        }
        Check.outcome(() -> x.runScript());
        s.same("after a run", x.type('d'), 1);
    }

    private static void promise47Code() {
        Sentence s = Sentence.ofPromise(47, "Throws `IllegalArgumentException` if the character code is not between 32 "
            + "and 126");
        for (int code = 32; code <= 126; code++) {
            char right = (char) code;
            s.answers("code " + code, FlyTreasury::new, x -> x.type(right), 1);
        }
        for (int code : new int[] {0, 1, 9, 10, 31, 127, 128, 160, 256 + 32, 256 + 126, 65535 - 1, 65535}) {
            char wrong = (char) code;
            s.refuses("code " + code, Treasuries::lived, ARGUMENT, x -> x.type(wrong));
        }
    }

    private static void promise47Full() {
        Sentence s = Sentence.ofPromise(47, "Throws `IllegalStateException` if the script buffer has 60 characters");
        s.answers("59", () -> typed(59), x -> x.type('~'), 60);
        s.refuses("60", () -> typed(60), STATE, x -> x.type('~'));
        s.refuses("60, a blank", () -> typed(60), STATE, x -> x.type(' '));
        FlyTreasury x = typed(60);
        Check.outcome(() -> x.type('~'));
        Check.outcome(() -> x.type('~'));
        s.fails("again", STATE, () -> x.type('~'));
        Check.outcome(() -> x.runScript());
        s.same("after a run", x.type('~'), 1);
    }

    private static FlyTreasury typed(int characters) {
        FlyTreasury x = Treasuries.lived();
        Treasuries.type(x, "y" + "-".repeat(characters - 3));
        return x;
    }

    private static void promise48Empty() {
        Sentence s = Sentence.ofPromise(48, "The buffer is empty afterwards, also if an exception is thrown.");
        for (String text : new String[] {"day", "da", "day 0", "", "!".repeat(60), "day" + ";day".repeat(14),
            "day 0" + ";day".repeat(13)}) {
            FlyTreasury x = new FlyTreasury();
            Treasuries.run(x, text);
            s.fails("'" + text + "', and then an empty script", ARGUMENT, () -> x.runScript());
            s.same("its error position", x.errorPosition(), 0);
            s.same("'" + text + "', and then a character", x.type('d'), 1);
            Treasuries.type(x, "ay");
            s.same("the next script", x.runScript(), 1);
        }
    }

    private static void promise48Count() {
        Sentence s = Sentence.ofPromise(48, "Returns the number of commands.");
        for (int count = 1; count <= 15; count++) {
            s.same(count + " commands", Treasuries.run(new FlyTreasury(), "day" + ";day".repeat(count - 1)), count);
        }
    }

    private static void promise48Form() {
        Sentence s = Sentence.ofPromise(48, "Throws `IllegalArgumentException` if the script does not have the "
            + "required form; errorPosition then returns its error position");
        hasNoForm(s, "", 0);
        hasNoForm(s, "!", 0);
        hasNoForm(s, "day;".repeat(15), 60);
        FlyTreasury x = rich();
        s.same("nothing of it takes effect", Treasuries.run(x, "put 0 g1;day;"), ARGUMENT.getName());
        s.same("no gnat", x.flies(0, 'g'), 30);
        s.same("no day", x.day(), 0);
        s.same("it is no change", x.undo(), 4);
    }

    private static void promise48Failure() {
        Sentence s = Sentence.ofPromise(48, "Throws `IllegalStateException` if the method for a command throws an "
            + "exception; no command takes effect, and failedCommand then returns the index of that command");
        for (int index = 0; index <= 13; index++) {
            FlyTreasury x = rich();
            String text = "day;".repeat(index) + "day 0" + ";day".repeat(13 - index);
            s.same("command " + index + " of 14", Treasuries.run(x, text), STATE.getName());
            s.same("the index", x.failedCommand(), index);
            s.same("no day", x.day(), 0);
            s.same("no drop", x.dew(0), 30);
            s.same("it is no change", x.undo(), 4);
        }
        FlyTreasury x = rich();
        Treasuries.run(x, "day;day 0;day 0;audit 9");
        s.same("the first of several", x.failedCommand(), 1);
    }

    private static void promise48FailureOfEachMethod() {
        Sentence s = Sentence.ofPromise(48, "Throws `IllegalStateException` if the method for a command throws an "
            + "exception; no command takes effect, and failedCommand then returns the index of that command");
        for (String command : FAILING) {
            FlyTreasury x = rich();
            s.same("'" + command + "'", Treasuries.run(x, command), STATE.getName());
            s.same("the index in '" + command + "'", x.failedCommand(), command.split(";").length - 1);
        }
        for (String command : new String[] {"audit 0", "take 0 h1", "swap 0 hm1", "mint 0 1"}) {
            FlyTreasury x = Treasuries.frozen();
            x.setRate('h', 50);
            Check.outcome(() -> x.runScript());
            s.same("frozen: '" + command + "'", Treasuries.run(x, command), STATE.getName());
            s.same("frozen for a day: '" + command + "'", Treasuries.run(x, "day 4;" + command), STATE.getName());
            s.same("the index in '" + command + "'", x.failedCommand(), 1);
        }
    }

    private static void promise49None() {
        Sentence s = Sentence.ofPromise(49, "Throws `NoSuchElementException` if there was no such script");
        s.refuses("a new object", FlyTreasury::new, NOTHING, x -> x.errorPosition());
        FlyTreasury x = new FlyTreasury();
        Treasuries.run(x, "day");
        s.fails("a script with the form", NOTHING, () -> x.errorPosition());
        Treasuries.run(x, "day 0");
        s.fails("a script with a failed command", NOTHING, () -> x.errorPosition());
        Treasuries.type(x, "!");
        s.fails("a script that was not run", NOTHING, () -> x.errorPosition());
        Check.outcome(() -> x.runScript());
        s.same("position 0", x.errorPosition(), 0);
    }

    private static void promise49Latest() {
        Sentence s = Sentence.ofPromise(49, "Returns the error position of the latest script that did not have the "
            + "required form.");
        FlyTreasury x = new FlyTreasury();
        Treasuries.run(x, "day;".repeat(15));
        s.same("the greatest", x.errorPosition(), 60);
        Treasuries.run(x, "day");
        Treasuries.run(x, "day 0");
        s.same("not of a later script with the form", x.errorPosition(), 60);
        Treasuries.run(x, "");
        s.same("of an empty one", x.errorPosition(), 0);
    }

    private static void promise50None() {
        Sentence s = Sentence.ofPromise(50, "Throws `NoSuchElementException` if there was no such script");
        s.refuses("a new object", FlyTreasury::new, NOTHING, x -> x.failedCommand());
        FlyTreasury x = new FlyTreasury();
        Treasuries.run(x, "day");
        s.fails("a script without a failed command", NOTHING, () -> x.failedCommand());
        Treasuries.run(x, "day 0;");
        s.fails("a script without the form", NOTHING, () -> x.failedCommand());
        Check.outcome(() -> x.passDays(0));
        s.fails("a method that failed", NOTHING, () -> x.failedCommand());
        Treasuries.run(x, "day 0");
        s.same("command 0", x.failedCommand(), 0);
    }

    private static void promise50Latest() {
        Sentence s = Sentence.ofPromise(50, "Returns the index of the command that failed in the latest script with a "
            + "failed command.");
        FlyTreasury x = new FlyTreasury();
        Treasuries.run(x, "day;".repeat(13) + "day 0");
        s.same("the greatest of 60 characters", x.failedCommand(), 13);
        Treasuries.run(x, "day");
        Treasuries.run(x, "day 0;");
        s.same("not of a later script without one", x.failedCommand(), 13);
        Treasuries.run(x, "day 0;day");
        s.same("the first command", x.failedCommand(), 0);
    }
}
