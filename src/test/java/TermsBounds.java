/** The boundary cases of "What it is" and of "Terms" up to "Days". */
final class TermsBounds {
    private static final Class<IndexOutOfBoundsException> INDEX = IndexOutOfBoundsException.class;
    private static final Class<IllegalArgumentException> ARGUMENT = IllegalArgumentException.class;
    private static final Class<IllegalStateException> STATE = IllegalStateException.class;
    private static final char[] KINDS = {'g', 'm', 'h'};

    private TermsBounds() {
    }

    static void run() {
        Sentence.testEach(TermsBounds::calls512, TermsBounds::calls512OfDew, TermsBounds::divisionsRoundDown,
            TermsBounds::kinds, TermsBounds::rates, TermsBounds::fiveVaults, TermsBounds::newVault,
            TermsBounds::newVaultAfterAnOldOne, TermsBounds::numbersOfAVault, TermsBounds::values,
            TermsBounds::reserves, TermsBounds::soundness, TermsBounds::legsOfAnExchange,
            TermsBounds::fliesReceivedAndCrumbs, TermsBounds::wingsIncrease, TermsBounds::wingsDecrease,
            TermsBounds::firstDay, TermsBounds::daysPass, TermsBounds::frozenDays);
    }

    private static Sentence terms(String section, String text) {
        return Sentence.ofSection(section, text);
    }

    private static final String CALLS = "An object is used for at most 512 calls after it has been made; what later "
        + "calls answer is free.";

    private static void calls512() {
        Sentence s = terms("What it is", CALLS);
        FlyTreasury days = new FlyTreasury();
        for (int call = 1; call <= 511; call++) {
            days.passDays(30);
        }
        s.same("call 512 is day()", days.day(), 511 * 30);
        FlyTreasury undone = new FlyTreasury();
        for (int call = 1; call <= 511; call++) {
            undone.passDays(30);
        }
        s.same("call 512 is undo()", undone.undo(), 7);
        FlyTreasury audited = new FlyTreasury();
        audited.addVault(0);
        for (int call = 2; call <= 511; call++) {
            audited.audit(0);
        }
        s.same("call 512 is auditTotal()", audited.auditTotal(), 510);
        FlyTreasury scripts = new FlyTreasury();
        for (int script = 1; script <= 73; script++) {
            Treasuries.run(scripts, "day 30");
        }
        s.same("call 512 is the day after 73 scripts", scripts.day(), 73 * 30);
    }

    private static void calls512OfDew() {
        Sentence s = terms("What it is", CALLS);
        FlyTreasury x = new FlyTreasury();
        x.addVault(0);
        x.deposit(0, 'h', 30);
        x.passDays(1);
        for (int pair = 1; pair <= 254; pair++) {
            x.mint(0, 99);
            x.redeem(0, 99);
        }
        s.same("call 512 is mintedTotal()", x.mintedTotal(), 254 * 99);
        FlyTreasury y = new FlyTreasury();
        y.addVault(0);
        y.setRate('h', 50);
        Treasuries.put(y, 0, 'h', 99);
        Treasuries.issue(y, 0, 4950);
        for (int call = 57; call <= 511; call++) {
            y.passDays(30);
        }
        s.same("call 512 is evaporatedTotal()", y.evaporatedTotal(), 4950);
    }

    private static void divisionsRoundDown() {
        Sentence s = terms("Terms", "All integer divisions round down.");
        FlyTreasury x = new FlyTreasury();
        x.addVault(1);
        x.deposit(0, 'g', 1);
        for (int legs : new int[] {1, 9, 10, 19, 20, 49}) {
            x.setRate('g', legs);
            s.same("a tenth of " + legs, x.reserve(0), legs / 10);
            s.same("hawkmoths for " + legs, x.mostFlies(0, 'h'), legs / 20);
            s.same("hawkmoths exchanged for " + legs, x.mostFliesByExchanges(0, 'h'), legs / 20);
        }
        s.same("49 legs for hawkmoths of 20", x.exchange(0, 'g', 'h', 1), 2);
    }

    private static void kinds() {
        Sentence s = terms("Flies and rates", "The kinds of flies are g for gnats, m for midges and h for hawkmoths.");
        FlyTreasury x = new FlyTreasury();
        for (int code = 0; code <= 500; code++) {
            char kind = (char) (code == 500 ? 65535 : code);
            boolean isKind = !ARGUMENT.getName().equals(Check.outcome(() -> x.rate(kind)));
            if (isKind != (kind == 'g' || kind == 'm' || kind == 'h')) {
                s.same("the character " + code + " is a kind", isKind, !isKind);
            }
        }
    }

    private static void rates() {
        Sentence s = terms("Flies and rates", "Each kind has a rate in legs, from 1 to 50, initially 2 for gnats, 6 "
            + "for midges and 20 for hawkmoths.");
        int[] initial = {2, 6, 20};
        for (int i = 0; i < 3; i++) {
            char kind = KINDS[i];
            s.answers("at first, " + kind, FlyTreasury::new, x -> x.rate(kind), initial[i]);
            FlyTreasury x = new FlyTreasury();
            x.setRate(kind, 1);
            s.same("the least, " + kind, x.rate(kind), 1);
            x.setRate(kind, 50);
            s.same("the greatest, " + kind, x.rate(kind), 50);
            s.refuses("0, " + kind, FlyTreasury::new, ARGUMENT, y -> y.setRate(kind, 0));
            s.refuses("51, " + kind, FlyTreasury::new, ARGUMENT, y -> y.setRate(kind, 51));
        }
    }

    private static void fiveVaults() {
        Sentence s = terms("Vaults", "At most 5 vaults have the indices 0 to n - 1 in the order in which they were "
            + "added; vaults are never removed.");
        FlyTreasury x = new FlyTreasury();
        for (int n = 0; n <= 5; n++) {
            for (int vault = 0; vault < n; vault++) {
                s.same("vault " + vault + " of " + n, x.stickiness(vault), 9 - vault);
            }
            int end = n;
            s.fails("vault -1 of " + n, INDEX, () -> x.stickiness(-1));
            s.fails("vault " + n + " of " + n, INDEX, () -> x.stickiness(end));
            if (n < 5) {
                s.same("the index of the next", x.addVault(9 - n), n);
            }
        }
        s.fails("a sixth", STATE, () -> x.addVault(0));
        x.audit(4);
        x.passDays(30);
        s.same("they stay", x.vaultCount(), 5);
    }

    private static final String NUMBERS = "A vault has from 0 to 99 flies of each kind, initially 0, a number of "
        + "crumbs, which are legs left over from exchanges, initially 0, a number of drops of dew that it has issued, "
        + "initially 0, a number of wings from 0 to 3, initially 1, and a stickiness from 0 to 9.";

    private static void newVault() {
        Sentence s = terms("Vaults", NUMBERS);
        FlyTreasury x = new FlyTreasury();
        for (int vault = 0; vault < 5; vault++) {
            x.addVault(vault);
            isNew(s, "vault " + vault, x, vault);
        }
    }

    private static void newVaultAfterAnOldOne() {
        Sentence s = terms("Vaults", NUMBERS);
        FlyTreasury x = new FlyTreasury();
        x.save();
        x.addVault(0);
        x.deposit(0, 'm', 30);
        x.deposit(0, 'h', 10);
        x.exchange(0, 'm', 'h', 3);
        x.mint(0, 99);
        x.setRate('m', 1);
        x.setRate('h', 1);
        x.audit(0);
        x.restore();
        x.addVault(0);
        isNew(s, "after restore", x, 0);
        FlyTreasury y = new FlyTreasury();
        y.addVault(0);
        Treasuries.run(y, "vault 0;put 1 m9;swap 1 mh4;mint 1 9;audit 1;audit 9");
        y.addVault(0);
        isNew(s, "after a script that failed", y, 1);
        y.audit(1);
        y.undo();
        y.undo();
        y.addVault(0);
        isNew(s, "after undo", y, 1);
    }

    private static void isNew(Sentence s, String what, FlyTreasury x, int vault) {
        for (char kind : KINDS) {
            s.same(what + ", flies " + kind, x.flies(vault, kind), 0);
        }
        s.same(what + ", crumbs", x.crumbs(vault), 0);
        s.same(what + ", dew", x.dew(vault), 0);
        s.same(what + ", wings", x.wings(vault), 1);
        s.same(what + ", frozen", x.isFrozen(vault), false);
    }

    private static void numbersOfAVault() {
        Sentence s = terms("Vaults", NUMBERS);
        for (char kind : KINDS) {
            FlyTreasury x = Treasuries.withFlies(kind, 99);
            s.same("99 of " + kind, x.flies(0, kind), 99);
            s.fails("100 of " + kind, STATE, () -> x.deposit(0, kind, 1));
            FlyTreasury y = Treasuries.withFlies(kind, 30);
            s.same("0 of " + kind, y.withdraw(0, kind, 30), 0);
        }
        FlyTreasury x = Treasuries.frozen();
        s.same("0 wings", x.wings(0), 0);
        for (int stickiness = 0; stickiness <= 9; stickiness++) {
            x.setStickiness(0, stickiness);
            s.same("stickiness", x.stickiness(0), stickiness);
        }
        FlyTreasury y = new FlyTreasury();
        y.addVault(0);
        for (int audit = 0; audit < 9; audit++) {
            y.audit(0);
        }
        s.same("3 wings", y.wings(0), 3);
    }

    /** 99 flies of each kind at 50 legs, and 48 crumbs. */
    private static FlyTreasury fullVault() {
        FlyTreasury x = new FlyTreasury();
        x.addVault(9);
        x.setRate('h', 50);
        x.deposit(0, 'm', 8);
        x.exchange(0, 'm', 'h', 8);
        for (char kind : KINDS) {
            x.setRate(kind, 50);
            Treasuries.put(x, 0, kind, 99);
        }
        return x;
    }

    private static void values() {
        Sentence s = terms("Vaults", "The value of a vault in legs is the sum of the numbers of its flies multiplied "
            + "by their rates, plus its crumbs.");
        s.answers("empty", () -> Treasuries.withFlies('g', 0), x -> x.value(0), 0);
        s.answers("one gnat", () -> Treasuries.withFlies('g', 1), x -> x.value(0), 2);
        FlyTreasury x = Treasuries.withFlies('m', 3);
        x.exchange(0, 'm', 'h', 3);
        s.same("crumbs alone", x.value(0), 18);
        s.answers("full, with 48 crumbs", TermsBounds::fullVault, y -> y.value(0), 3 * 99 * 50 + 48);
    }

    private static void reserves() {
        Sentence s = terms("Vaults", "The reserve of a vault is its value multiplied by its stickiness and divided by "
            + "10.");
        FlyTreasury x = fullVault();
        s.same("the greatest", x.reserve(0), 14898 * 9 / 10);
        x.setStickiness(0, 0);
        s.same("stickiness 0", x.reserve(0), 0);
        FlyTreasury y = Treasuries.withFlies('g', 0);
        y.setStickiness(0, 9);
        s.same("value 0", y.reserve(0), 0);
        y.deposit(0, 'g', 1);
        s.same("18 tenths", y.reserve(0), 1);
        y.setRate('g', 1);
        s.same("9 tenths", y.reserve(0), 0);
        y.setRate('g', 10);
        s.same("90 tenths", y.reserve(0), 9);
    }

    private static void soundness() {
        Sentence s = terms("Vaults", "A vault is sound if its dew is at most its value minus its reserve.");
        s.answers("nothing in it", () -> Treasuries.withFlies('g', 0), x -> x.isSound(0), true);
        FlyTreasury x = Treasuries.withFlies('h', 10);
        x.setStickiness(0, 5);
        Treasuries.issue(x, 0, 100);
        s.same("100 drops, 200 legs, half of them reserve", x.isSound(0), true);
        x.setRate('h', 19);
        s.same("100 drops, 190 legs, half of them reserve", x.isSound(0), false);
        FlyTreasury y = Treasuries.withFlies('m', 3);
        y.exchange(0, 'm', 'h', 3);
        y.mint(0, 18);
        s.same("18 drops, 18 crumbs", y.isSound(0), true);
        y.setStickiness(0, 1);
        s.same("18 drops, 18 crumbs, 1 of them reserve", y.isSound(0), false);
        y.redeem(0, 1);
        s.same("17 drops, 18 crumbs, 1 of them reserve", y.isSound(0), true);
    }

    private static void legsOfAnExchange() {
        Sentence s = terms("Exchanges", "When a vault exchanges flies of one kind for flies of another kind, the legs "
            + "are the flies given multiplied by their rate, plus the crumbs of the vault.");
        FlyTreasury x = Treasuries.withFlies('m', 4);
        s.same("18 legs without crumbs", x.exchange(0, 'm', 'h', 3), 0);
        s.same("6 legs and 18 crumbs", x.exchange(0, 'm', 'h', 1), 1);
        FlyTreasury y = Treasuries.withFlies('m', 3);
        y.exchange(0, 'm', 'h', 3);
        y.deposit(0, 'g', 1);
        s.same("2 legs and 18 crumbs just make 20", y.exchange(0, 'g', 'h', 1), 1);
        FlyTreasury z = Treasuries.withFlies('m', 3);
        z.exchange(0, 'm', 'h', 3);
        z.setRate('g', 1);
        z.deposit(0, 'g', 1);
        s.same("1 leg and 18 crumbs do not", z.exchange(0, 'g', 'h', 1), 0);
    }

    private static void fliesReceivedAndCrumbs() {
        Sentence s = terms("Exchanges", "The flies received are the legs divided by the rate of the other kind, and "
            + "the remainder of this division is the new number of crumbs.");
        int[][] rows = {{1, 0, 19}, {2, 1, 18}, {3, 2, 17}};
        for (int[] row : rows) {
            FlyTreasury x = Treasuries.withFlies('g', row[0]);
            x.setRate('g', 19);
            s.same("for " + row[0] + " gnats of 19 legs", x.exchange(0, 'g', 'h', row[0]), row[1]);
            s.same("crumbs of " + row[0] + " gnats of 19 legs", x.crumbs(0), row[2]);
        }
        FlyTreasury x = Treasuries.withFlies('g', 10);
        s.same("20 legs for one hawkmoth", x.exchange(0, 'g', 'h', 10), 1);
        s.same("no crumbs", x.crumbs(0), 0);
        FlyTreasury y = Treasuries.withFlies('m', 3);
        y.exchange(0, 'm', 'h', 3);
        y.deposit(0, 'm', 1);
        y.setRate('g', 5);
        s.same("more crumbs than the rate", y.exchange(0, 'm', 'g', 1), 4);
        s.same("24 legs leave 4", y.crumbs(0), 4);
        y.setRate('m', 1);
        s.same("rate 1", y.exchange(0, 'g', 'm', 1), 9);
        s.same("rate 1 leaves no crumbs", y.crumbs(0), 0);
    }

    private static void wingsIncrease() {
        Sentence s = terms("Audits", "When a vault is audited and is sound, its wings increase by 1, but not above 3.");
        FlyTreasury x = Treasuries.frozenSince(5);
        x.redeem(0, 50);
        for (int wings : new int[] {1, 2, 3, 3, 3}) {
            x.audit(0);
            s.same("wings", x.wings(0), wings);
            s.same("frozen at " + wings, x.isFrozen(0), false);
        }
    }

    private static void wingsDecrease() {
        Sentence s = terms("Audits", "If it is not sound, its wings decrease by 1, but not below 0, and if they are 0 "
            + "then, the vault is frozen for 5 days.");
        FlyTreasury x = Treasuries.withFlies('h', 10);
        x.audit(0);
        x.audit(0);
        Treasuries.issue(x, 0, 200);
        x.setRate('h', 1);
        for (int wings = 2; wings > 0; wings--) {
            x.audit(0);
            s.same("wings", x.wings(0), wings);
            s.same("frozen at " + wings, x.isFrozen(0), false);
        }
        for (int time = 0; time < 3; time++) {
            x.audit(0);
            s.same("none left", x.wings(0), 0);
            s.same("frozen at 0", x.daysUntilThaw(0), 5);
            x.passDays(5);
            s.same("thawed", x.isFrozen(0), false);
        }
    }

    private static void firstDay() {
        Sentence s = terms("Days", "The day counter starts at 0.");
        s.answers("a new object", FlyTreasury::new, x -> x.day(), 0);
    }

    private static final String DAY = "When a day passes, the day counter increases by 1, then 1 drop of dew of each "
        + "vault that has dew evaporates, and then the number of days for which each frozen vault is still frozen "
        + "decreases by 1; a vault for which it becomes 0 is not frozen any more.";

    private static void daysPass() {
        Sentence s = terms("Days", DAY);
        FlyTreasury x = Treasuries.withVaults(3);
        x.redeem(0, 10);
        x.redeem(1, 9);
        int day = x.day();
        s.same("drops of the first day", x.passDays(1), 2);
        s.same("the day", x.day(), day + 1);
        s.same("no dew stays no dew", x.dew(0), 0);
        s.same("the last drop", x.dew(1), 0);
        s.same("one of ten", x.dew(2), 9);
        s.same("drops of the second day", x.passDays(1), 1);
        s.same("it does not fall below 0", x.dew(1), 0);
        s.same("drops of 9 days and more", x.passDays(30), 8);
        s.same("all gone", x.dew(2), 0);
        s.same("the last day", x.day(), day + 32);
    }

    private static void frozenDays() {
        Sentence s = terms("Days", DAY);
        FlyTreasury x = Treasuries.frozen();
        x.addVault(0);
        for (int left = 5; left > 0; left--) {
            s.same("days left", x.daysUntilThaw(0), left);
            s.same("frozen", x.isFrozen(0), true);
            x.passDays(1);
        }
        s.same("0 days left", x.isFrozen(0), false);
        s.same("never frozen", x.isFrozen(1), false);
        x.passDays(1);
        s.same("a day later", x.isFrozen(0), false);
        x.audit(0);
        x.passDays(30);
        s.same("after 30 days at once", x.isFrozen(0), false);
    }
}
