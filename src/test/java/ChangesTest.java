/** Promises 1 to 11: a new object and the methods that change a treasury. */
public final class ChangesTest {
    private static final Class<IndexOutOfBoundsException> INDEX = IndexOutOfBoundsException.class;
    private static final Class<IllegalArgumentException> ARGUMENT = IllegalArgumentException.class;
    private static final Class<IllegalStateException> STATE = IllegalStateException.class;
    private static final Class<UnsupportedOperationException> UNSUPPORTED = UnsupportedOperationException.class;
    private static final int[] NO_VAULTS = {-1, 1, 5, Integer.MIN_VALUE, Integer.MAX_VALUE};
    private static final char[] NO_KINDS = {'x', 'G', ' ', 'f', 'i', 'n', (char) 0, (char) 65535};

    private ChangesTest() {
    }

    public static void main(String[] args) {
        promise1NewObject();
        promise2AddVault();
        promise3Deposit();
        promise4Withdraw();
        promise5Exchange();
        promise5ExchangeLimits();
        promise6Mint();
        promise7Redeem();
        promise8Audit();
        promise8AuditFreezes();
        promise9SetRate();
        promise10SetStickiness();
        promise11PassDays();
        changesThatFailChangeNothing();
        Check.finish();
    }

    private static FlyTreasury withVault(int stickiness) {
        FlyTreasury x = new FlyTreasury();
        x.addVault(stickiness);
        return x;
    }

    /** A vault whose only wing is lost, so that it is frozen for 5 days; it has 10 hawkmoths and 60 drops. */
    private static FlyTreasury withFrozenVault() {
        FlyTreasury x = withVault(0);
        x.deposit(0, 'h', 10);
        x.mint(0, 60);
        x.setRate('h', 1);
        x.audit(0);
        return x;
    }

    private static void promise1NewObject() {
        FlyTreasury x = new FlyTreasury();
        Check.same("1 vaultCount", x.vaultCount(), 0);
        Check.same("1 day", x.day(), 0);
        Check.same("1 rate g", x.rate('g'), 2);
        Check.same("1 rate m", x.rate('m'), 6);
        Check.same("1 rate h", x.rate('h'), 20);
        Check.same("1 totalValue", x.totalValue(), 0);
        Check.same("1 mintedTotal", x.mintedTotal(), 0);
        Check.same("1 redeemedTotal", x.redeemedTotal(), 0);
        Check.same("1 evaporatedTotal", x.evaporatedTotal(), 0);
        Check.same("1 auditTotal", x.auditTotal(), 0);
        Check.same("1 soundAuditTotal", x.soundAuditTotal(), 0);
        Check.fails("1 outputAt", INDEX, () -> x.outputAt(0));
        Check.fails("1 undo", STATE, () -> x.undo());
        Check.fails("1 restore", STATE, () -> x.restore());
        new FlyTreasury().addVault(1);
        Check.same("1 objects are apart", x.vaultCount(), 0);
    }

    private static void promise2AddVault() {
        FlyTreasury x = new FlyTreasury();
        for (int wrong : new int[] {-1, 10, Integer.MIN_VALUE, Integer.MAX_VALUE}) {
            Check.fails("2 stickiness " + wrong, ARGUMENT, () -> x.addVault(wrong));
        }
        Check.same("2 count after failures", x.vaultCount(), 0);
        int[] stickinesses = {0, 9, 3, 4, 5};
        for (int i = 0; i < 5; i++) {
            Check.same("2 index " + i, x.addVault(stickinesses[i]), i);
            Check.same("2 stickiness " + i, x.stickiness(i), stickinesses[i]);
            Check.same("2 wings " + i, x.wings(i), 1);
            Check.same("2 crumbs " + i, x.crumbs(i), 0);
            Check.same("2 dew " + i, x.dew(i), 0);
            Check.same("2 gnats " + i, x.flies(i, 'g'), 0);
            Check.same("2 frozen " + i, x.isFrozen(i), false);
        }
        Check.fails("2 sixth", STATE, () -> x.addVault(1));
        Check.fails("2 sixth with wrong stickiness", ARGUMENT, () -> x.addVault(10));
        Check.same("2 count", x.vaultCount(), 5);
    }

    private static void promise3Deposit() {
        FlyTreasury x = withVault(1);
        Check.same("3 first", x.deposit(0, 'g', 30), 30);
        Check.same("3 second", x.deposit(0, 'g', 30), 60);
        Check.same("3 third", x.deposit(0, 'g', 30), 90);
        Check.fails("3 100", STATE, () -> x.deposit(0, 'g', 10));
        Check.same("3 99", x.deposit(0, 'g', 9), 99);
        Check.fails("3 full", STATE, () -> x.deposit(0, 'g', 1));
        Check.fails("3 full and 31", ARGUMENT, () -> x.deposit(0, 'g', 31));
        Check.same("3 m", x.deposit(0, 'm', 1), 1);
        Check.same("3 h", x.deposit(0, 'h', 2), 2);
        Check.same("3 flies g", x.flies(0, 'g'), 99);
        Check.same("3 flies m", x.flies(0, 'm'), 1);
        Check.same("3 flies h", x.flies(0, 'h'), 2);
        for (int vault : NO_VAULTS) {
            Check.fails("3 vault " + vault, INDEX, () -> x.deposit(vault, 'x', 0));
        }
        for (char kind : NO_KINDS) {
            Check.fails("3 kind " + (int) kind, ARGUMENT, () -> x.deposit(0, kind, 1));
        }
        for (int flies : new int[] {0, -1, 31, Integer.MIN_VALUE, Integer.MAX_VALUE}) {
            Check.fails("3 flies " + flies, ARGUMENT, () -> x.deposit(0, 'm', flies));
        }
        FlyTreasury frozen = withFrozenVault();
        Check.same("3 frozen", frozen.deposit(0, 'm', 3), 3);
    }

    private static void promise4Withdraw() {
        FlyTreasury x = withVault(2);
        x.deposit(0, 'h', 10);
        Check.same("4 take 1", x.withdraw(0, 'h', 1), 9);
        Check.same("4 flies", x.flies(0, 'h'), 9);
        Check.fails("4 too many", UNSUPPORTED, () -> x.withdraw(0, 'h', 10));
        Check.fails("4 none", UNSUPPORTED, () -> x.withdraw(0, 'g', 1));
        x.mint(0, 99);
        // 7 hawkmoths are 140 legs with a reserve of 28; 6 are 120 with 24, which leaves 96 for 99 drops.
        Check.same("4 just sound", x.withdraw(0, 'h', 2), 7);
        Check.fails("4 unsound afterwards", UNSUPPORTED, () -> x.withdraw(0, 'h', 1));
        x.redeem(0, 3);
        Check.same("4 all of the value", x.withdraw(0, 'h', 1), 6);
        x.redeem(0, 96);
        Check.same("4 to 0", x.withdraw(0, 'h', 6), 0);
        Check.same("4 totalFlies", x.totalFlies('h'), 0);
        for (int vault : NO_VAULTS) {
            Check.fails("4 vault " + vault, INDEX, () -> x.withdraw(vault, 'x', 0));
        }
        for (char kind : NO_KINDS) {
            Check.fails("4 kind " + (int) kind, ARGUMENT, () -> x.withdraw(0, kind, 1));
        }
        for (int flies : new int[] {0, -1, 31, Integer.MIN_VALUE, Integer.MAX_VALUE}) {
            Check.fails("4 flies " + flies, ARGUMENT, () -> x.withdraw(0, 'm', flies));
        }
        FlyTreasury frozen = withFrozenVault();
        Check.fails("4 frozen", STATE, () -> frozen.withdraw(0, 'h', 1));
        Check.fails("4 frozen and too many", STATE, () -> frozen.withdraw(0, 'h', 30));
        Check.fails("4 frozen and 31", ARGUMENT, () -> frozen.withdraw(0, 'h', 31));
        Check.fails("4 frozen and no kind", ARGUMENT, () -> frozen.withdraw(0, 'x', 1));
    }

    private static void promise5Exchange() {
        FlyTreasury x = withVault(2);
        x.deposit(0, 'h', 10);
        Check.same("5 h to m", x.exchange(0, 'h', 'm', 1), 3);
        Check.same("5 crumbs 2", x.crumbs(0), 2);
        Check.same("5 h left", x.flies(0, 'h'), 9);
        Check.same("5 m got", x.flies(0, 'm'), 3);
        Check.same("5 with crumbs", x.exchange(0, 'h', 'm', 2), 7);
        Check.same("5 crumbs 0", x.crumbs(0), 0);
        Check.same("5 value is kept", x.value(0), 200);
        Check.same("5 m to h, too little", x.exchange(0, 'm', 'h', 3), 0);
        Check.same("5 crumbs 18", x.crumbs(0), 18);
        Check.same("5 crumbs help", x.exchange(0, 'm', 'h', 1), 1);
        Check.same("5 crumbs 4", x.crumbs(0), 4);
        Check.same("5 m to g", x.exchange(0, 'm', 'g', 6), 20);
        Check.same("5 value at the end", x.value(0), 200);
        Check.fails("5 too many", UNSUPPORTED, () -> x.exchange(0, 'h', 'm', 9));
        Check.fails("5 none", UNSUPPORTED, () -> x.exchange(0, 'm', 'h', 1));
        for (int vault : NO_VAULTS) {
            Check.fails("5 vault " + vault, INDEX, () -> x.exchange(vault, 'x', 'x', 0));
        }
        for (char kind : NO_KINDS) {
            Check.fails("5 from " + (int) kind, ARGUMENT, () -> x.exchange(0, kind, 'g', 1));
            Check.fails("5 to " + (int) kind, ARGUMENT, () -> x.exchange(0, 'g', kind, 1));
        }
        for (char kind : new char[] {'g', 'm', 'h'}) {
            Check.fails("5 same " + kind, ARGUMENT, () -> x.exchange(0, kind, kind, 1));
        }
        for (int flies : new int[] {0, -1, 31, Integer.MIN_VALUE, Integer.MAX_VALUE}) {
            Check.fails("5 flies " + flies, ARGUMENT, () -> x.exchange(0, 'h', 'g', flies));
        }
        FlyTreasury frozen = withFrozenVault();
        Check.fails("5 frozen", STATE, () -> frozen.exchange(0, 'h', 'm', 1));
        Check.fails("5 frozen and too many", STATE, () -> frozen.exchange(0, 'h', 'm', 30));
        Check.fails("5 frozen and same", ARGUMENT, () -> frozen.exchange(0, 'h', 'h', 1));
    }

    private static void promise5ExchangeLimits() {
        FlyTreasury x = withVault(0);
        x.deposit(0, 'h', 30);
        Check.fails("5 100 gnats", UNSUPPORTED, () -> x.exchange(0, 'h', 'g', 10));
        Check.same("5 90 gnats", x.exchange(0, 'h', 'g', 9), 90);
        x.deposit(0, 'g', 9);
        Check.fails("5 no room", UNSUPPORTED, () -> x.exchange(0, 'h', 'g', 1));
        Check.same("5 30 at once", x.exchange(0, 'g', 'm', 30), 10);
        FlyTreasury y = withVault(0);
        y.deposit(0, 'h', 20);
        y.exchange(0, 'h', 'm', 1);
        y.deposit(0, 'g', 9);
        Check.fails("5 the crumbs make it 100", UNSUPPORTED, () -> y.exchange(0, 'h', 'g', 9));
        y.withdraw(0, 'g', 1);
        Check.same("5 exactly 99", y.exchange(0, 'h', 'g', 9), 91);
        Check.same("5 flies 99", y.flies(0, 'g'), 99);
        // An unsound vault may exchange: only a frozen one may not.
        x.mint(0, 99);
        x.setRate('h', 1);
        x.setRate('m', 1);
        x.setRate('g', 1);
        x.setStickiness(0, 9);
        Check.same("5 is unsound", x.isSound(0), false);
        Check.same("5 unsound", x.exchange(0, 'h', 'm', 3), 3);
    }

    private static void promise6Mint() {
        FlyTreasury x = withVault(2);
        Check.fails("6 no value", UNSUPPORTED, () -> x.mint(0, 1));
        x.deposit(0, 'h', 10);
        Check.same("6 99", x.mint(0, 99), 99);
        Check.fails("6 above 160", UNSUPPORTED, () -> x.mint(0, 62));
        Check.same("6 to 160", x.mint(0, 61), 160);
        Check.fails("6 161", UNSUPPORTED, () -> x.mint(0, 1));
        Check.same("6 sound at the edge", x.isSound(0), true);
        Check.same("6 dew", x.dew(0), 160);
        Check.same("6 mintedTotal", x.mintedTotal(), 160);
        x.setRate('h', 1);
        Check.fails("6 unsound", UNSUPPORTED, () -> x.mint(0, 1));
        for (int vault : NO_VAULTS) {
            Check.fails("6 vault " + vault, INDEX, () -> x.mint(vault, 0));
        }
        for (int drops : new int[] {0, -1, 100, Integer.MIN_VALUE, Integer.MAX_VALUE}) {
            Check.fails("6 drops " + drops, ARGUMENT, () -> x.mint(0, drops));
        }
        FlyTreasury frozen = withFrozenVault();
        Check.fails("6 frozen", STATE, () -> frozen.mint(0, 1));
        Check.fails("6 frozen and 100", ARGUMENT, () -> frozen.mint(0, 100));
        frozen.setRate('h', 50);
        Check.fails("6 frozen and sound", STATE, () -> frozen.mint(0, 1));
    }

    private static void promise7Redeem() {
        FlyTreasury x = withVault(0);
        x.deposit(0, 'h', 10);
        x.mint(0, 50);
        Check.same("7 one", x.redeem(0, 1), 49);
        Check.fails("7 too many", UNSUPPORTED, () -> x.redeem(0, 50));
        Check.same("7 all", x.redeem(0, 49), 0);
        Check.fails("7 none left", UNSUPPORTED, () -> x.redeem(0, 1));
        Check.same("7 redeemedTotal", x.redeemedTotal(), 50);
        x.mint(0, 99);
        Check.same("7 99", x.redeem(0, 99), 0);
        for (int vault : NO_VAULTS) {
            Check.fails("7 vault " + vault, INDEX, () -> x.redeem(vault, 0));
        }
        for (int drops : new int[] {0, -1, 100, Integer.MIN_VALUE, Integer.MAX_VALUE}) {
            Check.fails("7 drops " + drops, ARGUMENT, () -> x.redeem(0, drops));
        }
        FlyTreasury frozen = withFrozenVault();
        Check.same("7 frozen", frozen.redeem(0, 20), 40);
        Check.same("7 still frozen", frozen.isFrozen(0), true);
    }

    private static void promise8Audit() {
        FlyTreasury x = withVault(0);
        Check.same("8 sound", x.audit(0), true);
        Check.same("8 wings 2", x.wings(0), 2);
        Check.same("8 sound again", x.audit(0), true);
        Check.same("8 wings 3", x.wings(0), 3);
        Check.same("8 sound at the top", x.audit(0), true);
        Check.same("8 wings stay 3", x.wings(0), 3);
        for (int vault : NO_VAULTS) {
            Check.fails("8 vault " + vault, INDEX, () -> x.audit(vault));
        }
        x.deposit(0, 'h', 10);
        x.mint(0, 11);
        x.setRate('h', 1);
        Check.same("8 unsound", x.audit(0), false);
        Check.same("8 wings back to 2", x.wings(0), 2);
        Check.same("8 not frozen at 2", x.isFrozen(0), false);
        x.audit(0);
        Check.same("8 not frozen at 1", x.isFrozen(0), false);
        x.redeem(0, 1);
        Check.same("8 sound at the edge", x.audit(0), true);
        Check.same("8 wings up again", x.wings(0), 2);
        Check.same("8 audits", x.auditTotal(), 6);
        Check.same("8 sound audits", x.soundAuditTotal(), 4);
    }

    private static void promise8AuditFreezes() {
        FlyTreasury x = withFrozenVault();
        Check.same("8 wings 0", x.wings(0), 0);
        Check.same("8 frozen", x.isFrozen(0), true);
        Check.same("8 for 5 days", x.daysUntilThaw(0), 5);
        Check.fails("8 audit of a frozen vault", STATE, () -> x.audit(0));
        Check.fails("8 no vault before frozen", INDEX, () -> x.audit(1));
        x.passDays(5);
        Check.same("8 thawed", x.isFrozen(0), false);
        Check.same("8 unsound at 0 wings", x.audit(0), false);
        Check.same("8 wings not below 0", x.wings(0), 0);
        Check.same("8 frozen again", x.daysUntilThaw(0), 5);
        x.passDays(5);
        x.setRate('h', 50);
        Check.same("8 sound at 0 wings", x.audit(0), true);
        Check.same("8 wings from 0 to 1", x.wings(0), 1);
        Check.same("8 not frozen", x.isFrozen(0), false);
        Check.same("8 audits", x.auditTotal(), 3);
    }

    private static void promise9SetRate() {
        FlyTreasury x = withVault(0);
        x.deposit(0, 'g', 3);
        Check.same("9 previous g", x.setRate('g', 50), 2);
        Check.same("9 previous m", x.setRate('m', 1), 6);
        Check.same("9 previous h", x.setRate('h', 7), 20);
        Check.same("9 previous g again", x.setRate('g', 50), 50);
        Check.same("9 rate g", x.rate('g'), 50);
        Check.same("9 rate m", x.rate('m'), 1);
        Check.same("9 rate h", x.rate('h'), 7);
        Check.same("9 value", x.value(0), 150);
        for (char kind : NO_KINDS) {
            Check.fails("9 kind " + (int) kind, ARGUMENT, () -> x.setRate(kind, 1));
        }
        for (int legs : new int[] {0, -1, 51, Integer.MIN_VALUE, Integer.MAX_VALUE}) {
            Check.fails("9 legs " + legs, ARGUMENT, () -> x.setRate('g', legs));
        }
    }

    private static void promise10SetStickiness() {
        FlyTreasury x = withVault(3);
        Check.same("10 previous 3", x.setStickiness(0, 0), 3);
        Check.same("10 previous 0", x.setStickiness(0, 9), 0);
        Check.same("10 previous 9", x.setStickiness(0, 9), 9);
        Check.same("10 stickiness", x.stickiness(0), 9);
        for (int vault : NO_VAULTS) {
            Check.fails("10 vault " + vault, INDEX, () -> x.setStickiness(vault, 10));
        }
        for (int wrong : new int[] {-1, 10, Integer.MIN_VALUE, Integer.MAX_VALUE}) {
            Check.fails("10 stickiness " + wrong, ARGUMENT, () -> x.setStickiness(0, wrong));
        }
        FlyTreasury frozen = withFrozenVault();
        Check.same("10 frozen", frozen.setStickiness(0, 4), 0);
    }

    private static void promise11PassDays() {
        FlyTreasury x = withFrozenVault();
        x.addVault(0);
        x.addVault(0);
        x.deposit(1, 'h', 3);
        x.mint(1, 3);
        Check.same("11 a day", x.passDays(1), 2);
        Check.same("11 day", x.day(), 1);
        Check.same("11 dew 0", x.dew(0), 59);
        Check.same("11 dew 1", x.dew(1), 2);
        Check.same("11 dew 2", x.dew(2), 0);
        Check.same("11 thaw", x.daysUntilThaw(0), 4);
        Check.same("11 three days", x.passDays(3), 5);
        Check.same("11 dew runs out", x.dew(1), 0);
        Check.same("11 last day", x.daysUntilThaw(0), 1);
        Check.same("11 30 days", x.passDays(30), 30);
        Check.same("11 thawed", x.isFrozen(0), false);
        Check.same("11 day 34", x.day(), 34);
        Check.same("11 rest", x.passDays(30), 26);
        Check.same("11 nothing left", x.passDays(30), 0);
        Check.same("11 evaporated", x.evaporatedTotal(), 63);
        for (int days : new int[] {0, -1, 31, Integer.MIN_VALUE, Integer.MAX_VALUE}) {
            Check.fails("11 days " + days, ARGUMENT, () -> x.passDays(days));
        }
        Check.same("11 without vaults", new FlyTreasury().passDays(30), 0);
    }

    private static void changesThatFailChangeNothing() {
        FlyTreasury x = withVault(0);
        x.deposit(0, 'h', 2);
        Check.fails("withdraw", UNSUPPORTED, () -> x.withdraw(0, 'h', 3));
        Check.fails("exchange", UNSUPPORTED, () -> x.exchange(0, 'h', 'g', 3));
        Check.fails("mint", UNSUPPORTED, () -> x.mint(0, 41));
        Check.fails("redeem", UNSUPPORTED, () -> x.redeem(0, 1));
        Check.fails("passDays", ARGUMENT, () -> x.passDays(31));
        Check.same("flies", x.flies(0, 'h'), 2);
        Check.same("dew", x.dew(0), 0);
        Check.same("day", x.day(), 0);
        Check.same("only two changes to undo", x.undo(), 1);
        Check.same("flies before", x.flies(0, 'h'), 0);
    }
}
