import java.util.ArrayList;
import java.util.List;

/** What can be seen of a treasury. */
final class Trace {
    private static final int LONGEST_OUTPUT = 40;

    private Trace() {
    }

    /** Everything, also what can be undone and restored: the treasury is used up by some 400 calls at most. */
    static String of(FlyTreasury x) {
        List<Object> seen = new ArrayList<>();
        seen.add(look(x));
        seen.add(Check.outcome(() -> x.type('~')));
        seen.add(Check.outcome(() -> x.runScript()));
        seen.add(Check.outcome(() -> x.errorPosition()));
        seen.add(Check.outcome(() -> x.failedCommand()));
        for (int i = 0; i < 9; i++) {
            seen.add(Check.outcome(() -> x.undo()));
            seen.add(glance(x));
        }
        seen.add(Check.outcome(() -> x.restore()));
        seen.add(glance(x));
        return seen.toString();
    }

    /** All answers of the methods that change nothing; some 150 calls with 5 vaults. */
    static String look(FlyTreasury x) {
        List<Object> seen = new ArrayList<>();
        for (int vault = 0; vault < x.vaultCount(); vault++) {
            lookAtVault(x, vault, seen);
        }
        for (char kind : new char[] {'g', 'm', 'h'}) {
            seen.add(x.rate(kind));
            seen.add(x.totalFlies(kind));
            seen.add(x.totalFliesByAccounts(kind));
        }
        seen.add(x.totalValueByKinds());
        seen.add(Check.outcome(() -> x.vaultByValue(0)));
        seen.add(x.kindByValue(0));
        seen.add(Check.outcome(() -> x.meanValue()));
        seen.add(Check.outcome(() -> x.soundShare()));
        seen.add(x.isConsistent());
        seen.add(output(x));
        seen.add(Check.outcome(() -> x.errorPosition()));
        seen.add(Check.outcome(() -> x.failedCommand()));
        seen.add(glance(x));
        return seen.toString();
    }

    private static void lookAtVault(FlyTreasury x, int vault, List<Object> seen) {
        for (char kind : new char[] {'g', 'm', 'h'}) {
            seen.add(x.flies(vault, kind));
            seen.add(x.mostFlies(vault, kind));
            seen.add(x.mostFliesByExchanges(vault, kind));
        }
        seen.add(x.crumbs(vault));
        seen.add(x.wings(vault));
        seen.add(x.stickiness(vault));
        seen.add(x.isFrozen(vault));
        seen.add(Check.outcome(() -> x.daysUntilThaw(vault)));
        seen.add(x.reserve(vault));
        seen.add(x.isSound(vault));
        seen.add(x.mintable(vault));
        seen.add(x.daysUntilSound(vault));
        seen.add(x.daysUntilSoundByCounting(vault));
    }

    private static String glance(FlyTreasury x) {
        List<Object> seen = new ArrayList<>();
        for (int vault = 0; vault < x.vaultCount(); vault++) {
            seen.add(x.value(vault));
            seen.add(x.dew(vault));
        }
        seen.add(x.day());
        seen.add(x.totalValue());
        seen.add(x.mintedTotal());
        seen.add(x.redeemedTotal());
        seen.add(x.evaporatedTotal());
        seen.add(x.auditTotal());
        seen.add(x.soundAuditTotal());
        seen.add(x.rate('g'));
        return seen.toString();
    }

    private static String output(FlyTreasury x) {
        StringBuilder text = new StringBuilder();
        for (int i = 0; i < LONGEST_OUTPUT; i++) {
            int index = i;
            Object sign = Check.outcome(() -> x.outputAt(index));
            if (!(sign instanceof Character)) {
                return text.append(sign).toString();
            }
            text.append(sign);
        }
        return text.toString();
    }
}
