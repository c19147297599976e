import java.util.NoSuchElementException;

/** Promises 47 to 53: scripts, undo and the snapshot. */
public final class ScriptsTest {
    private static final Class<IllegalArgumentException> ARGUMENT = IllegalArgumentException.class;
    private static final Class<IllegalStateException> STATE = IllegalStateException.class;
    private static final Class<NoSuchElementException> NOTHING = NoSuchElementException.class;

    private ScriptsTest() {
    }

    public static void main(String[] args) {
        promise47Type();
        promise48EveryCommand();
        promise48AllOrNothing();
        promise48BufferIsEmptyAfterwards();
        promise48LongestScripts();
        promise49ErrorPosition();
        promise49LatestErrorPosition();
        promise50FailedCommand();
        promise50FailuresOfEachCommand();
        promise51Undo();
        promise51UndoOfEachChange();
        promise52And53Snapshot();
        Check.finish();
    }

    private static void type(FlyTreasury x, String text) {
        for (int i = 0; i < text.length(); i++) {
            x.type(text.charAt(i));
        }
    }

    private static Object run(FlyTreasury x, String text) {
        type(x, text);
        return Check.outcome(() -> x.runScript());
    }

    private static String vault(FlyTreasury x, int vault) {
        int length = x.renderVault(vault);
        StringBuilder text = new StringBuilder();
        for (int i = 0; i < length; i++) {
            text.append(x.outputAt(i));
        }
        return text.toString();
    }

    private static void promise47Type() {
        FlyTreasury x = new FlyTreasury();
        for (int code : new int[] {0, 10, 31, 127, 128, 233, 65535}) {
            Check.fails("47 code " + code, ARGUMENT, () -> x.type((char) code));
        }
        Check.same("47 32", x.type((char) 32), 1);
        Check.same("47 126", x.type((char) 126), 2);
        for (int length = 3; length <= 60; length++) {
            Check.same("47 length", x.type('a'), length);
        }
        Check.fails("47 full", STATE, () -> x.type('a'));
        Check.fails("47 full and wrong", ARGUMENT, () -> x.type((char) 31));
        Check.fails("47 no change", STATE, () -> x.undo());
    }

    private static void promise48EveryCommand() {
        FlyTreasury x = new FlyTreasury();
        Check.same("48 vault", run(x, "vault 2"), 1);
        Check.same("48 stickiness", x.stickiness(0), 2);
        Check.same("48 put and take", run(x, "put 0 g30;put 0 m7;put 0 h10;take 0 g5;take 0 m02"), 5);
        Check.same("48 flies", vault(x, 0), "g25m5h10+0~0w1");
        Check.same("48 swap", run(x, "swap 0 hm1;swap 0 gh3;swap 0 mg1"), 3);
        Check.same("48 swapped", vault(x, 0), "g29m7h9+0~0w1");
        Check.same("48 mint and melt", run(x, "mint 0 99;melt 0 9;mint 0 1"), 3);
        Check.same("48 dew", x.dew(0), 91);
        Check.same("48 audit", run(x, "audit 0;audit 0"), 2);
        Check.same("48 wings", x.wings(0), 3);
        Check.same("48 rates", run(x, "rate g1;rate m50;rate h03"), 3);
        Check.same("48 rate g", x.rate('g'), 1);
        Check.same("48 rate m", x.rate('m'), 50);
        Check.same("48 rate h", x.rate('h'), 3);
        Check.same("48 stick", run(x, "stick 0 7"), 1);
        Check.same("48 sticky", x.stickiness(0), 7);
        Check.same("48 days", run(x, "day;day 9;day 30"), 3);
        Check.same("48 day", x.day(), 40);
        Check.same("48 two vaults", run(x, "vault 0;vault 9;put 2 g1"), 3);
        Check.same("48 second vault", x.flies(2, 'g'), 1);
    }

    private static void promise48AllOrNothing() {
        FlyTreasury x = new FlyTreasury();
        run(x, "vault 1;put 0 h9;mint 0 20");
        String before = vault(x, 0);
        Check.same("48 fails late", run(x, "vault 2;put 0 g3;rate g9;day 4;audit 0;take 0 m1"), STATE.getName());
        Check.same("48 vault is as before", vault(x, 0), before);
        Check.same("48 count is as before", x.vaultCount(), 1);
        Check.same("48 rate is as before", x.rate('g'), 2);
        Check.same("48 day is as before", x.day(), 0);
        Check.same("48 audits are as before", x.auditTotal(), 0);
        Check.same("48 accounts are as before", x.totalFliesByAccounts('g'), 0);
        Check.same("48 new vault is as new", x.addVault(0), 1);
        Check.same("48 empty", vault(x, 1), "g0m0h0+0~0w1");
        Check.same("48 form goes first", run(x, "take 0 m1;x"), ARGUMENT.getName());
        Check.same("48 nothing of a bad form", run(x, "put 0 g1;put 0 g1;"), ARGUMENT.getName());
        Check.same("48 no gnat", x.flies(0, 'g'), 0);
        Check.same("48 later commands see earlier ones", run(x, "put 1 g3;take 1 g3;swap 0 hg1"), 3);
        Check.same("48 no undo of failures", x.undo(), 2);
    }

    private static void promise48BufferIsEmptyAfterwards() {
        FlyTreasury x = new FlyTreasury();
        run(x, "day");
        Check.same("48 after success", x.type('d'), 1);
        run(x, "ax");
        Check.same("48 after a bad form", x.type('d'), 1);
        run(x, "ay 0");
        Check.same("48 after a failure", x.type('d'), 1);
        Check.same("48 day", x.day(), 1);
        Check.same("48 latest error", x.errorPosition(), 2);
    }

    private static void promise48LongestScripts() {
        FlyTreasury x = new FlyTreasury();
        String days = "day;".repeat(15);
        Check.same("48 15 commands", run(x, days.substring(0, 59)), 15);
        Check.same("48 15 days", x.day(), 15);
        Check.same("48 60 and open", run(x, days), ARGUMENT.getName());
        Check.same("49 60", x.errorPosition(), 60);
        Check.same("48 60 and whole", run(x, "day;".repeat(13) + "day 1;da".substring(0, 5)), 14);
        Check.same("48 60 characters", run(x, "day 10;".repeat(6) + "day;".repeat(3) + "day 10"), 10);
        Check.same("48 day", x.day(), 15 + 13 + 1 + 60 + 3 + 10);
    }

    private static void position(String text, int due) {
        FlyTreasury x = new FlyTreasury();
        Check.same("49 form of '" + text + "'", run(x, text), ARGUMENT.getName());
        Check.same("49 position in '" + text + "'", x.errorPosition(), due);
    }

    private static void promise49ErrorPosition() {
        Check.fails("49 none", NOTHING, () -> new FlyTreasury().errorPosition());
        position("", 0);
        position(" ", 0);
        position(";", 0);
        position("Day", 0);
        position("d", 1);
        position("da", 2);
        position("dax", 2);
        position("days", 3);
        position("day ", 4);
        position("day  1", 4);
        position("day 1x", 5);
        position("day 123", 6);
        position("day ;", 4);
        position("day;", 4);
        position("day;;", 4);
        position("day; day", 4);
        position("day ;day", 4);
        position("m", 1);
        position("ma", 1);
        position("mi", 2);
        position("me", 2);
        position("mil", 2);
        position("s", 1);
        position("sx", 1);
        position("swi", 2);
        position("stw", 2);
        position("vault", 5);
        position("vault ", 6);
        position("vaults", 5);
        position("vault x", 6);
        position("vault 10", 7);
        position("put 0g1", 5);
        position("put 0 x1", 6);
        position("put 0 g", 7);
        position("put 0 g 1", 7);
        position("put 0 g-1", 7);
        position("put 0 g100", 9);
        position("put 10 g1", 5);
        position("take 0 h", 8);
        position("swap 0 g", 8);
        position("swap 0 g m1", 8);
        position("swap 0 gm", 9);
        position("swap 0 gx1", 8);
        position("mint 0", 6);
        position("mint 0 ", 7);
        position("mint 0 g", 7);
        position("melt 0 1 ", 8);
        position("audit", 5);
        position("audit 0 ", 7);
        position("rate 2", 5);
        position("rate g", 6);
        position("rate g 2", 6);
        position("stick 0", 7);
        position("stick 0 12", 9);
        position("audit 0;rate g2;mint 0 1;x", 25);
    }

    private static void promise49LatestErrorPosition() {
        FlyTreasury x = new FlyTreasury();
        run(x, "dax");
        run(x, "day");
        run(x, "day 0");
        Check.same("49 stays", x.errorPosition(), 2);
        run(x, "rate x1");
        Check.same("49 latest", x.errorPosition(), 5);
        x.undo();
        Check.same("49 is not undone", x.errorPosition(), 5);
        x.save();
        run(x, "x");
        x.restore();
        Check.same("49 is not restored", x.errorPosition(), 0);
    }

    private static void promise50FailedCommand() {
        FlyTreasury x = new FlyTreasury();
        Check.fails("50 none", NOTHING, () -> x.failedCommand());
        run(x, "x");
        run(x, "day");
        Check.fails("50 still none", NOTHING, () -> x.failedCommand());
        Check.same("50 fails", run(x, "day;vault 0;put 1 g1;day"), STATE.getName());
        Check.same("50 third", x.failedCommand(), 2);
        run(x, "day");
        run(x, "y");
        Check.same("50 stays", x.failedCommand(), 2);
        run(x, "audit 0");
        Check.same("50 latest", x.failedCommand(), 0);
        x.save();
        run(x, "day;day;day;day 99");
        x.undo();
        x.restore();
        Check.same("50 is not undone or restored", x.failedCommand(), 3);
    }

    private static void promise50FailuresOfEachCommand() {
        String[] failing = {"put 1 g1", "put 0 g0", "put 0 g31", "take 0 g1", "take 0 g99", "swap 0 hh1", "swap 0 gm1",
            "swap 0 hg0", "mint 0 0", "mint 0 99", "mint 9 1", "melt 0 1", "melt 0 00", "audit 1", "rate g0", "rate m51",
            "stick 1 0", "day 0", "day 31", "day 00"};
        FlyTreasury x = new FlyTreasury();
        run(x, "vault 0;put 0 h3");
        for (String command : failing) {
            Check.same("50 " + command, run(x, "day;" + command), STATE.getName());
            Check.same("50 index of " + command, x.failedCommand(), 1);
        }
        Check.same("50 no day", x.day(), 0);
        run(x, "vault 0;vault 0;vault 0;vault 0");
        Check.same("50 sixth vault", run(x, "vault 0"), STATE.getName());
        Check.same("50 index of it", x.failedCommand(), 0);
        Check.same("50 frozen", run(x, "mint 0 50;rate h1;audit 0;take 0 h1"), STATE.getName());
        Check.same("50 index of frozen", x.failedCommand(), 3);
    }

    private static void promise51Undo() {
        FlyTreasury x = new FlyTreasury();
        Check.fails("51 nothing", STATE, () -> x.undo());
        for (int i = 0; i < 10; i++) {
            x.passDays(1);
        }
        for (int left = 7; left >= 0; left--) {
            Check.same("51 left", x.undo(), left);
            Check.same("51 day", x.day(), left + 2);
        }
        Check.fails("51 only 8", STATE, () -> x.undo());
        x.passDays(1);
        x.passDays(2);
        Check.same("51 one", x.undo(), 1);
        Check.same("51 day 3", x.day(), 3);
        x.passDays(9);
        Check.same("51 in between", x.undo(), 1);
        Check.same("51 day 3 again", x.day(), 3);
        Check.same("51 last", x.undo(), 0);
        run(x, "day;day;day");
        Check.same("51 a script is one change", x.undo(), 0);
        Check.same("51 day 2", x.day(), 2);
        x.setRate('g', 2);
        Check.same("51 the same state is a change", x.undo(), 0);
        Check.outcome(() -> x.passDays(0));
        x.save();
        x.type('d');
        x.renderRates();
        Check.fails("51 no changes", STATE, () -> x.undo());
    }

    private static void promise51UndoOfEachChange() {
        FlyTreasury x = new FlyTreasury();
        x.addVault(1);
        x.undo();
        Check.same("51 addVault", x.vaultCount(), 0);
        x.addVault(2);
        x.deposit(0, 'h', 10);
        x.undo();
        Check.same("51 deposit", vault(x, 0), "g0m0h0+0~0w1");
        x.deposit(0, 'h', 10);
        x.withdraw(0, 'h', 1);
        x.undo();
        Check.same("51 withdraw", x.flies(0, 'h'), 10);
        x.exchange(0, 'h', 'm', 1);
        x.undo();
        Check.same("51 exchange", vault(x, 0), "g0m0h10+0~0w1");
        x.mint(0, 50);
        x.undo();
        Check.same("51 mint", x.dew(0), 0);
        x.mint(0, 50);
        x.redeem(0, 20);
        x.undo();
        Check.same("51 redeem", x.dew(0), 50);
        x.setRate('h', 1);
        x.audit(0);
        x.undo();
        Check.same("51 audit", vault(x, 0), "g0m0h10+0~50w1");
        Check.same("51 audits", x.auditTotal(), 0);
        x.undo();
        Check.same("51 setRate", x.rate('h'), 20);
        x.setStickiness(0, 9);
        x.undo();
        Check.same("51 setStickiness", x.stickiness(0), 2);
        x.passDays(3);
        x.undo();
        Check.same("51 passDays", x.dew(0), 50);
        Check.same("51 day", x.day(), 0);
        Check.same("51 consistent", x.isConsistent(), true);
        type(x, "da");
        x.setRate('g', 9);
        x.undo();
        Check.same("51 keeps the buffer", x.type('y'), 3);
    }

    private static void promise52And53Snapshot() {
        FlyTreasury x = new FlyTreasury();
        Check.fails("53 none", STATE, () -> x.restore());
        Check.same("52 empty", x.save(), 0);
        run(x, "vault 3;vault 4;put 0 h9;mint 0 30;rate g7");
        Check.same("52 two", x.save(), 2);
        String saved = vault(x, 0);
        run(x, "vault 1;day 9;take 0 h1;rate g1;audit 0");
        type(x, "da");
        x.renderRates();
        Check.same("53 two", x.restore(), 2);
        Check.same("53 keeps the output text", x.outputAt(1), '1');
        Check.same("53 keeps the buffer", x.type('y'), 3);
        Check.same("53 vault", vault(x, 0), saved);
        Check.same("53 rate", x.rate('g'), 7);
        Check.same("53 day", x.day(), 0);
        Check.same("53 audits", x.auditTotal(), 0);
        Check.same("53 consistent", x.isConsistent(), true);
        Check.fails("53 nothing to undo", STATE, () -> x.undo());
        Check.same("53 the buffer runs", x.runScript(), 1);
        Check.same("53 is kept", x.restore(), 2);
        Check.same("53 day again", x.day(), 0);
        x.passDays(1);
        x.save();
        Check.same("52 keeps what can be undone", x.undo(), 0);
        Check.same("52 undone", x.day(), 0);
        x.restore();
        Check.same("53 the later snapshot", x.day(), 1);
        Check.fails("53 still nothing to undo", STATE, () -> x.undo());
    }
}
