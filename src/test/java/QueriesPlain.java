/** The sentences of promises 13 to 42 that name no boundary case, asked of the vaults of Treasuries.varied(). */
final class QueriesPlain {
    private static final char[] KINDS = {'g', 'm', 'h'};
    private static final String VAULT = "- `vault`: the index of the vault";

    private QueriesPlain() {
    }

    interface KindCall {
        Object on(FlyTreasury x, char kind);
    }

    interface VaultAndKindCall {
        Object on(FlyTreasury x, int vault, char kind);
    }

    static void run() {
        Sentence.testEach(QueriesPlain::numbersOfVaults, QueriesPlain::frozenVaults, QueriesPlain::worthOfVaults,
            QueriesPlain::predictions, QueriesPlain::fliesOfVaults, QueriesPlain::kinds, QueriesPlain::values,
            QueriesPlain::vaultRanks, QueriesPlain::kindRanks, QueriesPlain::totals, QueriesPlain::quotients);
    }

    /** The answers that are due for the vaults 0, 1 and 2. */
    private static void ofVaults(int promise, String text, ChangesBounds.VaultCall call, Object... due) {
        Sentence s = Sentence.ofPromise(promise, text);
        FlyTreasury x = Treasuries.varied();
        for (int vault = 0; vault < 3; vault++) {
            int asked = vault;
            s.same("vault " + vault, Check.outcome(() -> call.on(x, asked)), due[vault]);
        }
    }

    /** The answers that are due for g, m and h. */
    private static void ofKinds(int promise, String text, KindCall call, Object... due) {
        Sentence s = Sentence.ofPromise(promise, text);
        FlyTreasury x = Treasuries.varied();
        for (int i = 0; i < 3; i++) {
            char kind = KINDS[i];
            s.same("kind " + kind, Check.outcome(() -> call.on(x, kind)), due[i]);
        }
    }

    private static void ofVaultsAndKinds(int promise, String text, VaultAndKindCall call, Object[][] due) {
        for (int i = 0; i < 3; i++) {
            char kind = KINDS[i];
            ofVaults(promise, text, (x, vault) -> call.on(x, vault, kind), due[0][i], due[1][i], due[2][i]);
        }
    }

    private static void of(int promise, String text, Sentence.Call call, Object due) {
        Sentence.ofPromise(promise, text).answers("varied", Treasuries::varied, call, due);
    }

    private static void numbersOfVaults() {
        ofVaults(14, VAULT + " Returns the number of legs.", (x, vault) -> x.crumbs(vault), 0, 9, 2);
        ofVaults(15, "Returns the dew of a vault. " + VAULT, (x, vault) -> x.dew(vault), 88, 35, 47);
        ofVaults(16, VAULT + " Returns the number of wings.", (x, vault) -> x.wings(vault), 0, 2, 3);
        ofVaults(17, VAULT + " Returns the stickiness.", (x, vault) -> x.stickiness(vault), 9, 2, 7);
    }

    private static void frozenVaults() {
        ofVaults(18, "Returns whether a vault is frozen. " + VAULT, (x, vault) -> x.isFrozen(vault), true, false,
            false);
        String notFrozen = "java.util.NoSuchElementException";
        ofVaults(19, VAULT + " Returns the number of days.", (x, vault) -> x.daysUntilThaw(vault), 3, notFrozen,
            notFrozen);
    }

    private static void worthOfVaults() {
        ofVaults(20, "Returns the value of a vault. " + VAULT, (x, vault) -> x.value(vault), 140, 318, 191);
        ofVaults(21, "Returns the reserve of a vault. " + VAULT, (x, vault) -> x.reserve(vault), 126, 63, 133);
        ofVaults(22, "Returns whether a vault is sound. " + VAULT, (x, vault) -> x.isSound(vault), false, true, true);
        ofVaults(23, VAULT, (x, vault) -> x.mintable(vault), 0, 220, 11);
    }

    private static void predictions() {
        ofVaults(24, "Predicts after how many days a vault is sound, computed by a subtraction. " + VAULT,
            (x, vault) -> x.daysUntilSound(vault), 74, 0, 0);
        ofVaults(25, VAULT + " Returns the number of days.", (x, vault) -> x.daysUntilSoundByCounting(vault), 74, 0,
            0);
        Sentence s = Sentence.ofPromise(24, "Predicts after how many days a vault is sound, computed by a "
            + "subtraction.");
        FlyTreasury x = Treasuries.varied();
        for (int left = 74; left > 0; left--) {
            s.same("sound " + left + " days before", x.isSound(0), false);
            s.same("days", x.daysUntilSound(0), left);
            x.passDays(1);
        }
        s.same("sound then", x.isSound(0), true);
    }

    private static void fliesOfVaults() {
        String arguments = VAULT + " - `kind`: the kind";
        Object[][] flies = {{0, 20, 0}, {5, 4, 14}, {11, 6, 6}};
        ofVaultsAndKinds(13, "Returns the number of flies of a kind in a vault. " + arguments,
            (x, vault, kind) -> x.flies(vault, kind), flies);
        Object[][] most = {{46, 20, 7}, {106, 45, 16}, {63, 27, 10}};
        String answer = " Returns the number of flies.";
        ofVaultsAndKinds(26, arguments + answer, (x, vault, kind) -> x.mostFlies(vault, kind), most);
        ofVaultsAndKinds(27, arguments + answer, (x, vault, kind) -> x.mostFliesByExchanges(vault, kind), most);
    }

    private static void kinds() {
        ofKinds(28, "Returns the rate of a kind. - `kind`: the kind", (x, kind) -> x.rate(kind), 3, 7, 19);
        String argumentAndAnswer = "- `kind`: the kind Returns the number of flies.";
        ofKinds(29, argumentAndAnswer, (x, kind) -> x.totalFlies(kind), 16, 30, 20);
        ofKinds(30, argumentAndAnswer, (x, kind) -> x.totalFliesByAccounts(kind), 16, 30, 20);
    }

    private static void values() {
        of(31, "Returns the value in legs.", x -> x.totalValue(), 140 + 318 + 191);
        of(32, "Returns the value in legs.", x -> x.totalValueByKinds(), 16 * 3 + 30 * 7 + 20 * 19 + 11);
    }

    private static void vaultRanks() {
        int[] due = {1, 2, 0};
        for (int rank = 0; rank < 3; rank++) {
            int asked = rank;
            of(33, "- `rank`: the rank, counted from 0 Returns the index of the vault.", x -> x.vaultByValue(asked),
                due[rank]);
        }
    }

    private static void kindRanks() {
        char[] due = {'h', 'm', 'g'};
        for (int rank = 0; rank < 3; rank++) {
            int asked = rank;
            of(34, "- `rank`: the rank, counted from 0 Returns the kind.", x -> x.kindByValue(asked), due[rank]);
        }
    }

    private static void totals() {
        of(35, "Returns the present day.", x -> x.day(), 2);
        of(36, "Returns the number of drops.", x -> x.mintedTotal(), 90 + 40 + 50);
        of(37, "Returns the number of drops.", x -> x.redeemedTotal(), 3 + 1);
        of(38, "Returns the number of drops.", x -> x.evaporatedTotal(), 3 * 2);
        of(39, "Returns the number of audits.", x -> x.auditTotal(), 4);
        of(40, "Returns the number of audits.", x -> x.soundAuditTotal(), 3);
    }

    private static void quotients() {
        of(41, "Returns the mean value.", x -> x.meanValue(), 649.0 / 3.0);
        of(42, "Returns the quotient.", x -> x.soundShare(), 0.75f);
    }
}
