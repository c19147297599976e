import java.util.NoSuchElementException;

/** Promises 12 to 34: what a treasury tells of its vaults, its flies and its values. */
public final class QueriesTest {
    private static final Class<IndexOutOfBoundsException> INDEX = IndexOutOfBoundsException.class;
    private static final Class<IllegalArgumentException> ARGUMENT = IllegalArgumentException.class;
    private static final Class<NoSuchElementException> NOTHING = NoSuchElementException.class;
    private static final int[] NO_VAULTS = {-1, 2, 4, 5, Integer.MIN_VALUE, Integer.MAX_VALUE};
    private static final char[] NO_KINDS = {'x', 'G', ' ', 'f', 'i', 'n', (char) 0, (char) 65535};

    private QueriesTest() {
    }

    public static void main(String[] args) {
        promise12VaultCount();
        promises13To18StateOfAVault();
        promise19DaysUntilThaw();
        promises20To23Soundness();
        promises24And25Predictions();
        promises26And27MostFlies();
        promise28Rate();
        promises29And30TotalFlies();
        promises31And32TotalValue();
        promise33VaultByValue();
        promise34KindByValue();
        noSuchVault();
        noSuchKind();
        Check.finish();
    }

    /** Vault 0: 5 gnats, 12 hawkmoths, 25 drops, unsound and frozen; vault 1: empty. */
    private static FlyTreasury twoVaults() {
        FlyTreasury x = new FlyTreasury();
        x.addVault(2);
        x.addVault(7);
        x.deposit(0, 'g', 5);
        x.deposit(0, 'h', 12);
        x.mint(0, 25);
        x.setRate('h', 1);
        x.audit(0);
        return x;
    }

    private static void promise12VaultCount() {
        FlyTreasury x = new FlyTreasury();
        for (int i = 0; i < 5; i++) {
            Check.same("12 before " + i, x.vaultCount(), i);
            x.addVault(i);
        }
        Check.same("12 all", x.vaultCount(), 5);
    }

    private static void promises13To18StateOfAVault() {
        FlyTreasury x = twoVaults();
        Check.same("13 g", x.flies(0, 'g'), 5);
        Check.same("13 m", x.flies(0, 'm'), 0);
        Check.same("13 h", x.flies(0, 'h'), 12);
        Check.same("13 other vault", x.flies(1, 'h'), 0);
        x.deposit(1, 'g', 10);
        x.exchange(1, 'g', 'm', 5);
        Check.same("14 crumbs", x.crumbs(1), 4);
        Check.same("14 other vault", x.crumbs(0), 0);
        Check.same("15 dew", x.dew(0), 25);
        Check.same("15 other vault", x.dew(1), 0);
        x.redeem(0, 3);
        x.passDays(2);
        Check.same("15 dew later", x.dew(0), 20);
        Check.same("16 wings", x.wings(0), 0);
        Check.same("16 other vault", x.wings(1), 1);
        Check.same("17 stickiness", x.stickiness(0), 2);
        Check.same("17 other vault", x.stickiness(1), 7);
        Check.same("18 frozen", x.isFrozen(0), true);
        Check.same("18 other vault", x.isFrozen(1), false);
        x.passDays(2);
        Check.same("18 frozen for a day", x.isFrozen(0), true);
        x.passDays(1);
        Check.same("18 thawed", x.isFrozen(0), false);
    }

    private static void promise19DaysUntilThaw() {
        FlyTreasury x = twoVaults();
        for (int days = 5; days > 0; days--) {
            Check.same("19 days", x.daysUntilThaw(0), days);
            x.passDays(1);
        }
        Check.fails("19 thawed", NOTHING, () -> x.daysUntilThaw(0));
        Check.fails("19 never frozen", NOTHING, () -> x.daysUntilThaw(1));
    }

    private static void promises20To23Soundness() {
        FlyTreasury x = new FlyTreasury();
        x.addVault(3);
        x.addVault(0);
        Check.same("20 empty", x.value(0), 0);
        Check.same("22 empty", x.isSound(0), true);
        Check.same("23 empty", x.mintable(0), 0);
        x.deposit(0, 'g', 1);
        x.deposit(0, 'm', 2);
        x.deposit(0, 'h', 3);
        Check.same("20 value", x.value(0), 74);
        Check.same("21 rounds down", x.reserve(0), 22);
        Check.same("23 mintable", x.mintable(0), 52);
        x.exchange(0, 'h', 'm', 1);
        Check.same("20 with crumbs", x.value(0), 74);
        x.mint(0, 50);
        Check.same("23 two left", x.mintable(0), 2);
        x.mint(0, 2);
        Check.same("22 at the edge", x.isSound(0), true);
        Check.same("23 none left", x.mintable(0), 0);
        x.setRate('g', 1);
        // 73 legs have a reserve of 21, so that 52 drops still are sound.
        Check.same("21 again", x.reserve(0), 21);
        Check.same("22 at the edge again", x.isSound(0), true);
        x.setStickiness(0, 4);
        Check.same("21 stickier", x.reserve(0), 29);
        Check.same("22 unsound", x.isSound(0), false);
        Check.same("23 unsound", x.mintable(0), 0);
        Check.same("22 other vault", x.isSound(1), true);
        x.setStickiness(0, 0);
        Check.same("21 not sticky", x.reserve(0), 0);
        x.setStickiness(0, 9);
        Check.same("21 very sticky", x.reserve(0), 65);
        FlyTreasury frozen = twoVaults();
        frozen.setRate('h', 20);
        Check.same("23 frozen", frozen.mintable(0), 175);
    }

    private static void promises24And25Predictions() {
        FlyTreasury x = twoVaults();
        // 22 legs have a reserve of 4, which leaves 18 for 25 drops.
        for (int days = 7; days > 0; days--) {
            Check.same("24 days", x.daysUntilSound(0), days);
            Check.same("25 days", x.daysUntilSoundByCounting(0), days);
            Check.same("24 not yet", x.isSound(0), false);
            x.passDays(1);
        }
        Check.same("24 sound", x.daysUntilSound(0), 0);
        Check.same("25 sound", x.daysUntilSoundByCounting(0), 0);
        Check.same("24 now", x.isSound(0), true);
        x.passDays(3);
        Check.same("24 not below 0", x.daysUntilSound(0), 0);
        Check.same("25 not below 0", x.daysUntilSoundByCounting(0), 0);
        Check.same("25 changes nothing", x.dew(0), 15);
    }

    private static void promises26And27MostFlies() {
        FlyTreasury x = new FlyTreasury();
        x.addVault(0);
        bothMost("empty", x, 'g', 0);
        x.deposit(0, 'g', 4);
        x.deposit(0, 'm', 5);
        x.deposit(0, 'h', 30);
        bothMost("638 legs", x, 'g', 319);
        bothMost("638 legs", x, 'm', 106);
        bothMost("638 legs", x, 'h', 31);
        x.deposit(0, 'g', 1);
        bothMost("crumbs are carried on", x, 'h', 32);
        x.withdraw(0, 'g', 4);
        x.deposit(0, 'm', 1);
        x.deposit(0, 'm', 20);
        x.withdraw(0, 'm', 23);
        bothMost("one gnat and three midges", x, 'h', 31);
        x.setRate('g', 1);
        bothMost("619 legs", x, 'g', 619);
        FlyTreasury y = new FlyTreasury();
        y.addVault(0);
        y.deposit(0, 'm', 3);
        y.exchange(0, 'm', 'h', 3);
        Check.same("26 only crumbs", y.crumbs(0), 18);
        bothMost("only crumbs", y, 'g', 9);
        bothMost("only crumbs", y, 'm', 3);
        bothMost("only crumbs", y, 'h', 0);
        y.deposit(0, 'm', 1);
        bothMost("crumbs and the kind itself", y, 'm', 4);
        y.setRate('m', 5);
        bothMost("rate above crumbs", y, 'm', 4);
        Check.same("27 changes nothing", y.crumbs(0), 18);
    }

    private static void bothMost(String what, FlyTreasury x, char kind, int due) {
        Check.same("26 " + what + " " + kind, x.mostFlies(0, kind), due);
        Check.same("27 " + what + " " + kind, x.mostFliesByExchanges(0, kind), due);
    }

    private static void promise28Rate() {
        FlyTreasury x = new FlyTreasury();
        x.setRate('m', 9);
        Check.same("28 g", x.rate('g'), 2);
        Check.same("28 m", x.rate('m'), 9);
        Check.same("28 h", x.rate('h'), 20);
    }

    private static void promises29And30TotalFlies() {
        FlyTreasury x = new FlyTreasury();
        bothTotals("no vaults", x, 'g', 0);
        x.addVault(0);
        x.addVault(0);
        x.deposit(0, 'g', 20);
        x.deposit(1, 'g', 30);
        x.deposit(1, 'h', 2);
        x.withdraw(0, 'g', 1);
        bothTotals("after a withdrawal", x, 'g', 49);
        x.exchange(1, 'g', 'm', 10);
        bothTotals("given", x, 'g', 39);
        bothTotals("received", x, 'm', 3);
        bothTotals("left alone", x, 'h', 2);
        x.undo();
        bothTotals("given back", x, 'g', 49);
        bothTotals("taken back", x, 'm', 0);
    }

    private static void bothTotals(String what, FlyTreasury x, char kind, int due) {
        Check.same("29 " + what, x.totalFlies(kind), due);
        Check.same("30 " + what, x.totalFliesByAccounts(kind), due);
    }

    private static void promises31And32TotalValue() {
        FlyTreasury x = new FlyTreasury();
        Check.same("31 no vaults", x.totalValue(), 0);
        Check.same("32 no vaults", x.totalValueByKinds(), 0);
        x.addVault(0);
        x.addVault(0);
        x.deposit(0, 'h', 3);
        x.deposit(1, 'g', 5);
        x.deposit(1, 'm', 1);
        x.exchange(0, 'h', 'm', 1);
        x.exchange(1, 'g', 'h', 4);
        Check.same("31 with crumbs", x.totalValue(), 76);
        Check.same("32 with crumbs", x.totalValueByKinds(), 76);
        x.setRate('m', 7);
        Check.same("31 new rate", x.totalValue(), 80);
        Check.same("32 new rate", x.totalValueByKinds(), 80);
    }

    private static void promise33VaultByValue() {
        FlyTreasury x = new FlyTreasury();
        Check.fails("33 no vaults", NOTHING, () -> x.vaultByValue(0));
        for (int i = 0; i < 5; i++) {
            x.addVault(0);
        }
        int[] order = {0, 1, 2, 3, 4};
        ranks("all the same", x, order);
        x.deposit(1, 'g', 10);
        x.deposit(2, 'h', 1);
        x.deposit(4, 'h', 2);
        x.mint(1, 2);
        x.mint(2, 1);
        ranks("by value, then dew", x, new int[] {4, 2, 1, 0, 3});
        x.redeem(1, 1);
        ranks("by index at last", x, new int[] {4, 1, 2, 0, 3});
        x.setRate('g', 5);
        ranks("by the new rate", x, new int[] {1, 4, 2, 0, 3});
        for (int rank : new int[] {-1, 5, Integer.MIN_VALUE, Integer.MAX_VALUE}) {
            Check.fails("33 rank " + rank, NOTHING, () -> x.vaultByValue(rank));
        }
    }

    private static void ranks(String what, FlyTreasury x, int[] due) {
        for (int rank = 0; rank < due.length; rank++) {
            Check.same("33 " + what + ", rank " + rank, x.vaultByValue(rank), due[rank]);
        }
    }

    private static void promise34KindByValue() {
        FlyTreasury x = new FlyTreasury();
        kinds("no flies", x, "gmh");
        x.addVault(0);
        x.addVault(0);
        x.deposit(0, 'm', 10);
        x.deposit(1, 'h', 3);
        kinds("a tie of m and h", x, "mhg");
        x.deposit(1, 'h', 1);
        kinds("h before m", x, "hmg");
        x.deposit(0, 'g', 30);
        kinds("a tie of g and m", x, "hgm");
        x.setRate('g', 50);
        kinds("g first", x, "ghm");
        for (int rank : new int[] {-1, 3, Integer.MIN_VALUE, Integer.MAX_VALUE}) {
            Check.fails("34 rank " + rank, NOTHING, () -> x.kindByValue(rank));
        }
    }

    private static void kinds(String what, FlyTreasury x, String due) {
        for (int rank = 0; rank < due.length(); rank++) {
            Check.same("34 " + what + ", rank " + rank, x.kindByValue(rank), due.charAt(rank));
        }
    }

    private static void noSuchVault() {
        FlyTreasury x = twoVaults();
        for (int vault : NO_VAULTS) {
            Check.fails("13 vault " + vault, INDEX, () -> x.flies(vault, 'x'));
            Check.fails("14 vault " + vault, INDEX, () -> x.crumbs(vault));
            Check.fails("15 vault " + vault, INDEX, () -> x.dew(vault));
            Check.fails("16 vault " + vault, INDEX, () -> x.wings(vault));
            Check.fails("17 vault " + vault, INDEX, () -> x.stickiness(vault));
            Check.fails("18 vault " + vault, INDEX, () -> x.isFrozen(vault));
            Check.fails("19 vault " + vault, INDEX, () -> x.daysUntilThaw(vault));
            Check.fails("20 vault " + vault, INDEX, () -> x.value(vault));
            Check.fails("21 vault " + vault, INDEX, () -> x.reserve(vault));
            Check.fails("22 vault " + vault, INDEX, () -> x.isSound(vault));
            Check.fails("23 vault " + vault, INDEX, () -> x.mintable(vault));
            Check.fails("24 vault " + vault, INDEX, () -> x.daysUntilSound(vault));
            Check.fails("25 vault " + vault, INDEX, () -> x.daysUntilSoundByCounting(vault));
            Check.fails("26 vault " + vault, INDEX, () -> x.mostFlies(vault, 'x'));
            Check.fails("27 vault " + vault, INDEX, () -> x.mostFliesByExchanges(vault, 'x'));
        }
    }

    private static void noSuchKind() {
        FlyTreasury x = twoVaults();
        for (char kind : NO_KINDS) {
            Check.fails("13 kind " + (int) kind, ARGUMENT, () -> x.flies(0, kind));
            Check.fails("26 kind " + (int) kind, ARGUMENT, () -> x.mostFlies(0, kind));
            Check.fails("27 kind " + (int) kind, ARGUMENT, () -> x.mostFliesByExchanges(0, kind));
            Check.fails("28 kind " + (int) kind, ARGUMENT, () -> x.rate(kind));
            Check.fails("29 kind " + (int) kind, ARGUMENT, () -> x.totalFlies(kind));
            Check.fails("30 kind " + (int) kind, ARGUMENT, () -> x.totalFliesByAccounts(kind));
        }
    }
}
