/** The sentences about the output text and scripts that name no boundary case: promises 44 to 50. */
final class TextsPlain {
    private TextsPlain() {
    }

    static void run() {
        Sentence.testEach(TextsPlain::theForm, TextsPlain::promise44, TextsPlain::promise45, TextsPlain::promise46,
            TextsPlain::promise47, TextsPlain::promise48, TextsPlain::promise49, TextsPlain::promise50);
    }

    private static void theForm() {
        Sentence s = Sentence.ofSection("Scripts", "A script is typed into a buffer of at most 60 characters and then "
            + "run. It has the form");
        FlyTreasury x = new FlyTreasury();
        Treasuries.type(x, "day 7");
        s.same("typing alone does nothing", x.day(), 0);
        s.same("run", x.runScript(), 1);
        s.same("what it does", x.day(), 7);
    }

    private static void promise44() {
        Sentence s = Sentence.ofPromise(44, "- `vault`: the index of the vault");
        FlyTreasury x = Treasuries.varied();
        String[] due = {"g0m20h0+0~88w0*3", "g5m4h14+9~35w2", "g11m6h6+2~47w3"};
        for (int vault = 0; vault < 3; vault++) {
            int length = x.renderVault(vault);
            s.same("length for " + vault, length, due[vault].length());
            s.same("text for " + vault, Treasuries.output(x, length), due[vault]);
        }
    }

    private static void promise45() {
        Sentence s = Sentence.ofPromise(45, "Returns the length of the output text.");
        s.answers("varied", Treasuries::varied, x -> x.renderRates(), 9);
        FlyTreasury x = Treasuries.varied();
        x.setRate('g', 10);
        s.same("one more digit", x.renderRates(), 10);
        s.same("the last character", x.outputAt(9), '9');
        s.fails("no character more", IndexOutOfBoundsException.class, () -> x.outputAt(10));
    }

    private static void promise46() {
        Sentence s = Sentence.ofPromise(46, "- `index`: the index of the character Returns the character.");
        FlyTreasury x = Treasuries.varied();
        x.renderRates();
        for (int index = 0; index < 9; index++) {
            s.same("character " + index, x.outputAt(index), "g3,m7,h19".charAt(index));
        }
    }

    private static void promise47() {
        Sentence s = Sentence.ofPromise(47, "Appends a character to the script buffer. - `character`: the character");
        FlyTreasury x = new FlyTreasury();
        Treasuries.type(x, "vault 3;day 12");
        x.runScript();
        s.same("each character is kept, in its order", x.day(), 12);
        s.same("the stickiness", x.stickiness(0), 3);
        Treasuries.type(x, "day ");
        Treasuries.output(x, x.renderRates());
        x.passDays(1);
        x.undo();
        Treasuries.type(x, "8");
        x.runScript();
        s.same("other calls between", x.day(), 20);
    }

    private static void promise48() {
        Sentence s = Sentence.ofPromise(48, "Runs the script in the script buffer.");
        FlyTreasury x = Treasuries.varied();
        Numbers before = new Numbers(x);
        s.same("the answer", Treasuries.run(x, "put 1 g7;swap 2 mg5;mint 1 60;melt 2 7;rate h18;stick 2 1"), 6);
        s.same("what changes", before.changesTo(new Numbers(x)), "[vault 1 g 5 to 12, vault 1 dew 35 to 95, "
            + "vault 2 g 11 to 23, vault 2 m 6 to 1, vault 2 crumbs 2 to 1, vault 2 dew 47 to 40, "
            + "vault 2 stickiness 7 to 1, rate h 19 to 18, minted 180 to 240, redeemed 4 to 11]");
        Numbers between = new Numbers(x);
        s.same("the answer again", Treasuries.run(x, "take 1 h3;audit 1;vault 6;put 3 m2;take 3 m1;day"), 6);
        s.same("what changes then", between.changesTo(new Numbers(x)), "[vault 0 dew 88 to 87, "
            + "vault 0 frozen 3 to 2, vault 1 h 14 to 11, vault 1 dew 95 to 94, vault 1 wings 2 to 3, "
            + "vault 2 dew 40 to 39, vaults 3 to 4, day 2 to 3, evaporated 6 to 9, audits 4 to 5, "
            + "sound audits 3 to 4, vault 3 g none to 0, vault 3 m none to 1, vault 3 h none to 0, "
            + "vault 3 crumbs none to 0, vault 3 dew none to 0, vault 3 wings none to 1, "
            + "vault 3 stickiness none to 6, vault 3 frozen none to 0]");
    }

    private static void promise49() {
        Sentence s = Sentence.ofPromise(49, "Returns the error position.");
        FlyTreasury x = Treasuries.varied();
        Treasuries.run(x, "day;melt 0 1;mind 0 1");
        s.same("the d of mind", x.errorPosition(), 16);
        s.same("asked again", x.errorPosition(), 16);
    }

    private static void promise50() {
        Sentence s = Sentence.ofPromise(50, "Returns the index of the command, counted from 0.");
        FlyTreasury x = Treasuries.varied();
        Treasuries.run(x, "day;melt 1 1;melt 2 1;audit 0;day");
        s.same("the audit of a frozen vault", x.failedCommand(), 3);
        s.same("asked again", x.failedCommand(), 3);
    }
}
