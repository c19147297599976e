import java.util.ArrayList;
import java.util.LinkedHashMap;
import java.util.LinkedHashSet;
import java.util.List;
import java.util.Map;
import java.util.Set;

/** The numbers that make up the state of a treasury, by name, without those that follow from them. */
final class Numbers {
    private final Map<String, Object> numbers = new LinkedHashMap<>();

    Numbers(FlyTreasury x) {
        for (int vault = 0; vault < x.vaultCount(); vault++) {
            lookAtVault(x, vault, "vault " + vault + " ");
        }
        for (char kind : new char[] {'g', 'm', 'h'}) {
            numbers.put("rate " + kind, x.rate(kind));
        }
        numbers.put("vaults", x.vaultCount());
        numbers.put("day", x.day());
        numbers.put("minted", x.mintedTotal());
        numbers.put("redeemed", x.redeemedTotal());
        numbers.put("evaporated", x.evaporatedTotal());
        numbers.put("audits", x.auditTotal());
        numbers.put("sound audits", x.soundAuditTotal());
    }

    private void lookAtVault(FlyTreasury x, int vault, String name) {
        for (char kind : new char[] {'g', 'm', 'h'}) {
            numbers.put(name + kind, x.flies(vault, kind));
        }
        numbers.put(name + "crumbs", x.crumbs(vault));
        numbers.put(name + "dew", x.dew(vault));
        numbers.put(name + "wings", x.wings(vault));
        numbers.put(name + "stickiness", x.stickiness(vault));
        numbers.put(name + "frozen", x.isFrozen(vault) ? x.daysUntilThaw(vault) : 0);
    }

    /** As in "[vault 0 g 3 to 5, day 0 to 1]". */
    String changesTo(Numbers later) {
        Set<String> names = new LinkedHashSet<>(numbers.keySet());
        names.addAll(later.numbers.keySet());
        List<String> changes = new ArrayList<>();
        for (String name : names) {
            Object before = numbers.getOrDefault(name, "none");
            Object after = later.numbers.getOrDefault(name, "none");
            if (!before.equals(after)) {
                changes.add(name + " " + before + " to " + after);
            }
        }
        return changes.toString();
    }
}
