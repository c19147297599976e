import java.util.NoSuchElementException;

/** The boundary cases of promises 12 to 34, and of the sentence about predictions. */
final class QueriesBounds {
    private static final Class<IllegalArgumentException> ARGUMENT = IllegalArgumentException.class;
    private static final Class<NoSuchElementException> NOTHING = NoSuchElementException.class;
    private static final char[] KINDS = {'g', 'm', 'h'};

    private QueriesBounds() {
    }

    interface KindCall {
        Object on(FlyTreasury x, char kind);
    }

    static void run() {
        Sentence.testEach(QueriesBounds::predictionsChangeNothing, QueriesBounds::predictionsAssumeDays,
            QueriesBounds::promise12, QueriesBounds::noSuchVaults, QueriesBounds::noSuchKinds, QueriesBounds::promise13,
            QueriesBounds::promise14, QueriesBounds::promise15, QueriesBounds::promise16, QueriesBounds::promise17,
            QueriesBounds::promise18, QueriesBounds::promise19Days, QueriesBounds::promise19NotFrozen,
            QueriesBounds::promise20, QueriesBounds::promise21, QueriesBounds::promise22,
            QueriesBounds::promise23Greatest, QueriesBounds::promise23NotSound, QueriesBounds::promise24,
            QueriesBounds::promise25, QueriesBounds::promise26WhateverTheLimits, QueriesBounds::promise27,
            QueriesBounds::promise27CrumbsAlone, QueriesBounds::promise28, QueriesBounds::promises29And30,
            QueriesBounds::promises31And32, QueriesBounds::promise33NoRank, QueriesBounds::promise33Ties,
            QueriesBounds::promise34NoRank, QueriesBounds::promise34Ties);
    }

    private static FlyTreasury empty() {
        return Treasuries.withFlies('g', 0);
    }

    /** 18 legs in crumbs and no flies. */
    private static FlyTreasury crumbsAlone() {
        FlyTreasury x = Treasuries.withFlies('m', 3);
        x.exchange(0, 'm', 'h', 3);
        return x;
    }

    /** 5 vaults with 99 flies of each kind at 50 legs. */
    private static FlyTreasury full() {
        FlyTreasury x = new FlyTreasury();
        for (char kind : KINDS) {
            x.setRate(kind, 50);
        }
        for (int vault = 0; vault < 5; vault++) {
            x.addVault(9);
            for (char kind : KINDS) {
                Treasuries.put(x, vault, kind, 99);
            }
        }
        return x;
    }

    private static void predictionsChangeNothing() {
        Sentence s = Sentence.ofSection("Changes", "Predictions do not change the state and assume that only days "
            + "pass.");
        for (Sentence.Maker made : new Sentence.Maker[] {Treasuries::frozen, QueriesBounds::crumbsAlone}) {
            FlyTreasury x = made.make();
            x.daysUntilSound(0);
            x.daysUntilSoundByCounting(0);
            x.mintable(0);
            for (char kind : KINDS) {
                x.mostFlies(0, kind);
                x.mostFliesByExchanges(0, kind);
            }
            s.same("what is seen afterwards", Trace.of(x), Trace.of(made.make()));
        }
    }

    private static void predictionsAssumeDays() {
        Sentence s = Sentence.ofSection("Changes", "Predictions do not change the state and assume that only days "
            + "pass.");
        FlyTreasury x = Treasuries.frozen();
        int days = x.daysUntilSound(0);
        for (int day = 0; day < days; day++) {
            s.same("sound on day " + day, x.isSound(0), false);
            x.passDays(1);
        }
        s.same("sound after " + days + " days", x.isSound(0), true);
        s.same("days", days, 50);
    }

    private static void promise12() {
        Sentence s = Sentence.ofPromise(12, "Returns the number of vaults.");
        for (int count = 0; count <= 5; count++) {
            int vaults = count;
            s.answers("with " + count, () -> Treasuries.withVaults(vaults), x -> x.vaultCount(), count);
        }
        FlyTreasury x = Treasuries.withVaults(5);
        Check.outcome(() -> x.addVault(0));
        s.same("after a sixth was refused", x.vaultCount(), 5);
    }

    private static void noSuchVaults() {
        ChangesBounds.noSuchVault(13, (x, vault) -> x.flies(vault, 'g'));
        ChangesBounds.noSuchVault(14, (x, vault) -> x.crumbs(vault));
        ChangesBounds.noSuchVault(15, (x, vault) -> x.dew(vault));
        ChangesBounds.noSuchVault(16, (x, vault) -> x.wings(vault));
        ChangesBounds.noSuchVault(17, (x, vault) -> x.stickiness(vault));
        ChangesBounds.noSuchVault(18, (x, vault) -> x.isFrozen(vault));
        ChangesBounds.noSuchVault(19, (x, vault) -> x.daysUntilThaw(vault));
        ChangesBounds.noSuchVault(20, (x, vault) -> x.value(vault));
        ChangesBounds.noSuchVault(21, (x, vault) -> x.reserve(vault));
        ChangesBounds.noSuchVault(22, (x, vault) -> x.isSound(vault));
        ChangesBounds.noSuchVault(23, (x, vault) -> x.mintable(vault));
        ChangesBounds.noSuchVault(24, (x, vault) -> x.daysUntilSound(vault));
        ChangesBounds.noSuchVault(25, (x, vault) -> x.daysUntilSoundByCounting(vault));
        ChangesBounds.noSuchVault(26, (x, vault) -> x.mostFlies(vault, 'g'));
        ChangesBounds.noSuchVault(27, (x, vault) -> x.mostFliesByExchanges(vault, 'g'));
    }

    private static void noSuchKinds() {
        noSuchKind(13, new int[] {4, 3, 2}, (x, kind) -> x.flies(0, kind));
        noSuchKind(26, new int[] {33, 11, 3}, (x, kind) -> x.mostFlies(0, kind));
        noSuchKind(27, new int[] {33, 11, 3}, (x, kind) -> x.mostFliesByExchanges(0, kind));
        noSuchKind(28, new int[] {2, 6, 20}, (x, kind) -> x.rate(kind));
        noSuchKind(29, new int[] {4, 3, 2}, (x, kind) -> x.totalFlies(kind));
        noSuchKind(30, new int[] {4, 3, 2}, (x, kind) -> x.totalFliesByAccounts(kind));
    }

    private static void noSuchKind(int promise, int[] due, KindCall call) {
        Sentence s = Sentence.ofPromise(promise, "Throws `IllegalArgumentException` if kind is not 'g', 'm' or 'h'");
        Sentence.Maker made = () -> Treasuries.withVaults(1);
        for (int i = 0; i < 3; i++) {
            char kind = KINDS[i];
            s.answers("kind " + kind, made, x -> call.on(x, kind), due[i]);
        }
        for (char wrong : Treasuries.noKinds()) {
            s.refuses("kind " + (int) wrong, made, ARGUMENT, x -> call.on(x, wrong));
        }
    }

    private static void promise13() {
        Sentence s = Sentence.ofPromise(13, "Returns the number of flies.");
        for (char kind : KINDS) {
            s.answers("none of " + kind, QueriesBounds::empty, x -> x.flies(0, kind), 0);
            s.answers("99 of " + kind, QueriesBounds::full, x -> x.flies(4, kind), 99);
        }
    }

    private static void promise14() {
        Sentence s = Sentence.ofPromise(14, "Returns the crumbs of a vault.");
        s.answers("none", QueriesBounds::full, x -> x.crumbs(0), 0);
        FlyTreasury x = Treasuries.withFlies('g', 1);
        x.setRate('g', 49);
        x.setRate('h', 50);
        x.exchange(0, 'g', 'h', 1);
        s.same("the most of one exchange", x.crumbs(0), 49);
        x.setRate('h', 1);
        s.same("more than the rate", x.crumbs(0), 49);
    }

    private static void promise15() {
        Sentence s = Sentence.ofPromise(15, "Returns the number of drops that it has issued and that neither were "
            + "taken back nor evaporated.");
        s.answers("none", QueriesBounds::empty, x -> x.dew(0), 0);
        FlyTreasury x = Treasuries.withVaults(2);
        x.redeem(0, 9);
        s.same("one left", x.dew(0), 1);
        x.passDays(1);
        s.same("the last has evaporated", x.dew(0), 0);
        x.passDays(1);
        s.same("nothing left to evaporate", x.dew(0), 0);
        s.same("of the other vault", x.dew(1), 8);
        x.redeem(1, 8);
        s.same("the last was taken back", x.dew(1), 0);
        s.same("the most", mostDew(), 14850);
    }

    private static int mostDew() {
        FlyTreasury x = full();
        x.setStickiness(2, 0);
        Treasuries.issue(x, 2, 14850);
        Check.fails("one more", UnsupportedOperationException.class, () -> x.mint(2, 1));
        return x.dew(2);
    }

    private static void promise16() {
        Sentence s = Sentence.ofPromise(16, "Returns the wings of a vault.");
        s.answers("at first", QueriesBounds::empty, x -> x.wings(0), 1);
        s.answers("none", Treasuries::frozen, x -> x.wings(0), 0);
        FlyTreasury x = empty();
        x.audit(0);
        x.audit(0);
        s.same("the most", x.wings(0), 3);
    }

    private static void promise17() {
        Sentence s = Sentence.ofPromise(17, "Returns the stickiness of a vault.");
        s.answers("the least", QueriesBounds::empty, x -> x.stickiness(0), 0);
        s.answers("the greatest", QueriesBounds::full, x -> x.stickiness(4), 9);
    }

    private static void promise18() {
        Sentence s = Sentence.ofPromise(18, "Returns true if it is frozen.");
        s.answers("never", QueriesBounds::empty, x -> x.isFrozen(0), false);
        s.answers("since now", Treasuries::frozen, x -> x.isFrozen(0), true);
        s.answers("for one more day", () -> Treasuries.frozenSince(4), x -> x.isFrozen(0), true);
        s.answers("no more", () -> Treasuries.frozenSince(5), x -> x.isFrozen(0), false);
    }

    private static void promise19Days() {
        Sentence s = Sentence.ofPromise(19, "Returns for how many days a vault is still frozen.");
        s.answers("since now", Treasuries::frozen, x -> x.daysUntilThaw(0), 5);
        s.answers("for one more day", () -> Treasuries.frozenSince(4), x -> x.daysUntilThaw(0), 1);
    }

    private static void promise19NotFrozen() {
        Sentence s = Sentence.ofPromise(19, "Throws `NoSuchElementException` if the vault is not frozen");
        s.refuses("never", QueriesBounds::empty, NOTHING, x -> x.daysUntilThaw(0));
        s.refuses("no more", () -> Treasuries.frozenSince(5), NOTHING, x -> x.daysUntilThaw(0));
        s.refuses("no more since 25 days", () -> Treasuries.frozenSince(30), NOTHING, x -> x.daysUntilThaw(0));
        s.answers("for one more day", () -> Treasuries.frozenSince(4), x -> x.daysUntilThaw(0), 1);
    }

    private static void promise20() {
        Sentence s = Sentence.ofPromise(20, "Returns the value in legs.");
        s.answers("empty", QueriesBounds::empty, x -> x.value(0), 0);
        s.answers("crumbs alone", QueriesBounds::crumbsAlone, x -> x.value(0), 18);
        s.answers("full", QueriesBounds::full, x -> x.value(4), 14850);
    }

    private static void promise21() {
        Sentence s = Sentence.ofPromise(21, "Returns the reserve in legs.");
        s.answers("empty", QueriesBounds::empty, x -> x.reserve(0), 0);
        s.answers("stickiness 0", QueriesBounds::crumbsAlone, x -> x.reserve(0), 0);
        s.answers("full and stickiest", QueriesBounds::full, x -> x.reserve(4), 13365);
    }

    /** 10 hawkmoths of 19 legs, half of which is reserve, so that 95 drops are sound. */
    private static FlyTreasury ninetyFive(int drops) {
        FlyTreasury x = Treasuries.withFlies('h', 10);
        Treasuries.issue(x, 0, drops);
        x.setRate('h', 19);
        x.setStickiness(0, 5);
        return x;
    }

    private static void promise22() {
        Sentence s = Sentence.ofPromise(22, "Returns true if it is sound.");
        s.answers("empty", QueriesBounds::empty, x -> x.isSound(0), true);
        s.answers("one drop below", () -> ninetyFive(94), x -> x.isSound(0), true);
        s.answers("just", () -> ninetyFive(95), x -> x.isSound(0), true);
        s.answers("one drop above", () -> ninetyFive(96), x -> x.isSound(0), false);
    }

    private static void promise23Greatest() {
        Sentence s = Sentence.ofPromise(23, "Returns the greatest number of drops that a vault could issue so that it "
            + "is sound afterwards, whether it is frozen or not.");
        s.answers("none but sound", () -> ninetyFive(95), x -> x.mintable(0), 0);
        s.answers("one", () -> ninetyFive(94), x -> x.mintable(0), 1);
        s.answers("all", () -> ninetyFive(0), x -> x.mintable(0), 95);
        s.answers("empty", QueriesBounds::empty, x -> x.mintable(0), 0);
        s.answers("more than a call may issue", QueriesBounds::full, x -> x.mintable(0), 1485);
        FlyTreasury frozen = Treasuries.frozen();
        frozen.setRate('h', 50);
        s.same("frozen", frozen.mintable(0), 440);
        FlyTreasury x = ninetyFive(7);
        x.mint(0, x.mintable(0));
        s.same("afterwards it is sound", x.isSound(0), true);
        s.fails("and one more is too much", UnsupportedOperationException.class, () -> x.mint(0, 1));
    }

    private static void promise23NotSound() {
        Sentence s = Sentence.ofPromise(23, "Returns the number of drops, 0 if the vault is not sound.");
        s.answers("a drop too many", () -> ninetyFive(96), x -> x.mintable(0), 0);
        s.answers("105 too many", () -> ninetyFive(200), x -> x.mintable(0), 0);
        s.answers("frozen and not sound", Treasuries::frozen, x -> x.mintable(0), 0);
    }

    private static void promise24() {
        Sentence s = Sentence.ofPromise(24, "Returns the number of days, 0 if it is sound now.");
        s.answers("empty", QueriesBounds::empty, x -> x.daysUntilSound(0), 0);
        s.answers("no dew", () -> ninetyFive(0), x -> x.daysUntilSound(0), 0);
        s.answers("just sound", () -> ninetyFive(95), x -> x.daysUntilSound(0), 0);
        s.answers("tomorrow", () -> ninetyFive(96), x -> x.daysUntilSound(0), 1);
        s.answers("later than a call may pass", () -> ninetyFive(200), x -> x.daysUntilSound(0), 105);
    }

    private static void promise25() {
        Sentence s = Sentence.ofPromise(25, "Returns the same number as daysUntilSound, found by counting down the dew "
            + "day by day.");
        s.answers("empty", QueriesBounds::empty, x -> x.daysUntilSoundByCounting(0), 0);
        s.answers("no dew", () -> ninetyFive(0), x -> x.daysUntilSoundByCounting(0), 0);
        s.answers("just sound", () -> ninetyFive(95), x -> x.daysUntilSoundByCounting(0), 0);
        s.answers("tomorrow", () -> ninetyFive(96), x -> x.daysUntilSoundByCounting(0), 1);
        s.answers("105 days", () -> ninetyFive(200), x -> x.daysUntilSoundByCounting(0), 105);
        FlyTreasury x = full();
        x.setStickiness(0, 0);
        Treasuries.issue(x, 0, 14850);
        for (char kind : KINDS) {
            x.setRate(kind, 1);
        }
        x.setStickiness(0, 9);
        s.same("the most days", x.daysUntilSoundByCounting(0), 14850 - 30);
        s.same("the most days by a subtraction", x.daysUntilSound(0), 14850 - 30);
    }

    private static void promise26WhateverTheLimits() {
        Sentence s = Sentence.ofPromise(26, "Returns how many flies of a kind a vault would have if it exchanged all "
            + "its flies of the other kinds for it, whatever the limits allow, computed from its value.");
        s.answers("empty", QueriesBounds::empty, x -> x.mostFlies(0, 'g'), 0);
        s.answers("more than 99", () -> Treasuries.withFlies('h', 30), x -> x.mostFlies(0, 'g'), 300);
        s.answers("frozen", Treasuries::frozen, x -> x.mostFlies(0, 'g'), 5);
        s.answers("the flies themselves", () -> Treasuries.withFlies('h', 99), x -> x.mostFlies(0, 'h'), 99);
        s.answers("9 gnats are too few", () -> Treasuries.withFlies('g', 9), x -> x.mostFlies(0, 'h'), 0);
        s.answers("10 gnats are enough", () -> Treasuries.withFlies('g', 10), x -> x.mostFlies(0, 'h'), 1);
        s.answers("18 crumbs are enough for 3", QueriesBounds::crumbsAlone, x -> x.mostFlies(0, 'm'), 3);
        s.answers("18 crumbs are too few", QueriesBounds::crumbsAlone, x -> x.mostFlies(0, 'h'), 0);
        FlyTreasury x = full();
        x.setRate('g', 1);
        s.same("the most", x.mostFlies(0, 'g'), 99 + 99 * 100);
    }

    private static void promise27() {
        Sentence s = Sentence.ofPromise(27, "Returns the same number as mostFlies, found by exchanging one kind after "
            + "the other;");
        s.answers("empty", QueriesBounds::empty, x -> x.mostFliesByExchanges(0, 'g'), 0);
        s.answers("more than 99", () -> Treasuries.withFlies('h', 30), x -> x.mostFliesByExchanges(0, 'g'), 300);
        s.answers("frozen", Treasuries::frozen, x -> x.mostFliesByExchanges(0, 'g'), 5);
        s.answers("9 gnats are too few", () -> Treasuries.withFlies('g', 9), x -> x.mostFliesByExchanges(0, 'h'), 0);
        s.answers("10 gnats are enough", () -> Treasuries.withFlies('g', 10), x -> x.mostFliesByExchanges(0, 'h'), 1);
        FlyTreasury x = Treasuries.withFlies('g', 4);
        x.deposit(0, 'm', 2);
        s.same("8 and 12 legs, neither enough alone", x.mostFliesByExchanges(0, 'h'), 1);
        x.withdraw(0, 'm', 2);
        x.deposit(0, 'm', 1);
        s.same("8 and 6 legs", x.mostFliesByExchanges(0, 'h'), 0);
        FlyTreasury y = crumbsAlone();
        y.deposit(0, 'g', 1);
        s.same("2 legs and 18 crumbs", y.mostFliesByExchanges(0, 'h'), 1);
        FlyTreasury z = full();
        z.setRate('g', 1);
        s.same("the most", z.mostFliesByExchanges(0, 'g'), 99 + 99 * 100);
    }

    private static void promise27CrumbsAlone() {
        Sentence s = Sentence.ofPromise(27, "if the vault has flies of no other kind, its crumbs are exchanged alone.");
        s.answers("18 crumbs for gnats", QueriesBounds::crumbsAlone, x -> x.mostFliesByExchanges(0, 'g'), 9);
        s.answers("18 crumbs for midges", QueriesBounds::crumbsAlone, x -> x.mostFliesByExchanges(0, 'm'), 3);
        s.answers("18 crumbs for hawkmoths", QueriesBounds::crumbsAlone, x -> x.mostFliesByExchanges(0, 'h'), 0);
        FlyTreasury x = crumbsAlone();
        x.deposit(0, 'm', 5);
        s.same("beside flies of the kind itself", x.mostFliesByExchanges(0, 'm'), 8);
        x.setRate('m', 19);
        s.same("too few for another", x.mostFliesByExchanges(0, 'm'), 5);
        x.setRate('m', 18);
        s.same("just enough for another", x.mostFliesByExchanges(0, 'm'), 6);
    }

    private static void promise28() {
        Sentence s = Sentence.ofPromise(28, "Returns the rate in legs.");
        FlyTreasury x = new FlyTreasury();
        for (char kind : KINDS) {
            x.setRate(kind, 1);
            s.same("the least, " + kind, x.rate(kind), 1);
            x.setRate(kind, 50);
            s.same("the greatest, " + kind, x.rate(kind), 50);
            Check.outcome(() -> x.setRate(kind, 51));
            s.same("after a refused one, " + kind, x.rate(kind), 50);
        }
    }

    private static void promises29And30() {
        Sentence s29 = Sentence.ofPromise(29, "Returns the number of flies of a kind in all vaults, added vault by "
            + "vault.");
        Sentence s30 = Sentence.ofPromise(30, "Returns the same number as totalFlies, computed from the accounts: the "
            + "flies of this kind that were put in and received in exchanges, minus those that were taken out and "
            + "given in exchanges.");
        for (char kind : KINDS) {
            s29.answers("no vaults, " + kind, FlyTreasury::new, x -> x.totalFlies(kind), 0);
            s30.answers("no vaults, " + kind, FlyTreasury::new, x -> x.totalFliesByAccounts(kind), 0);
            s29.answers("the most, " + kind, QueriesBounds::full, x -> x.totalFlies(kind), 495);
            s30.answers("the most, " + kind, QueriesBounds::full, x -> x.totalFliesByAccounts(kind), 495);
            FlyTreasury x = Treasuries.withFlies(kind, 30);
            Check.outcome(() -> x.withdraw(0, kind, 31));
            x.withdraw(0, kind, 30);
            Check.outcome(() -> x.withdraw(0, kind, 1));
            Check.outcome(() -> x.exchange(0, kind, kind == 'g' ? 'h' : 'g', 1));
            s29.same("all taken out, " + kind, x.totalFlies(kind), 0);
            s30.same("all taken out, " + kind, x.totalFliesByAccounts(kind), 0);
            s30.answers("each way twice, " + kind, QueriesBounds::eachWayTwice, y -> y.totalFliesByAccounts(kind),
                kind == 'g' ? 43 : 2);
        }
    }

    /** 60 gnats, of which 11 are taken out, 12 are given for 4 midges and 2 of those for 6 gnats, and 2 hawkmoths. */
    private static FlyTreasury eachWayTwice() {
        FlyTreasury x = Treasuries.withFlies('g', 60);
        x.deposit(0, 'h', 1);
        x.deposit(0, 'h', 1);
        x.withdraw(0, 'g', 5);
        x.withdraw(0, 'g', 6);
        x.exchange(0, 'g', 'm', 6);
        x.exchange(0, 'g', 'm', 6);
        x.exchange(0, 'm', 'g', 1);
        x.exchange(0, 'm', 'g', 1);
        return x;
    }

    private static void promises31And32() {
        Sentence s31 = Sentence.ofPromise(31, "Returns the value of all vaults, added vault by vault.");
        Sentence s32 = Sentence.ofPromise(32, "Returns the same number as totalValue, added kind by kind, with the "
            + "crumbs of all vaults.");
        s31.answers("no vaults", FlyTreasury::new, x -> x.totalValue(), 0);
        s32.answers("no vaults", FlyTreasury::new, x -> x.totalValueByKinds(), 0);
        s31.answers("the most flies", QueriesBounds::full, x -> x.totalValue(), 74250);
        s32.answers("the most flies", QueriesBounds::full, x -> x.totalValueByKinds(), 74250);
        s31.answers("crumbs alone", QueriesBounds::crumbsAlone, x -> x.totalValue(), 18);
        s32.answers("crumbs alone", QueriesBounds::crumbsAlone, x -> x.totalValueByKinds(), 18);
    }

    private static void promise33NoRank() {
        Sentence s = Sentence.ofPromise(33, "Throws `NoSuchElementException` if there is no such rank");
        for (int count : new int[] {0, 1, 4, 5}) {
            Sentence.Maker made = () -> Treasuries.withVaults(count);
            for (int wrong : Treasuries.outside(0, count - 1)) {
                s.refuses("rank " + wrong + " of " + count, made, NOTHING, x -> x.vaultByValue(wrong));
            }
            for (int rank = 0; rank < count; rank++) {
                int last = rank;
                s.answers("rank " + rank + " of " + count, made, x -> x.vaultByValue(last), rank);
            }
        }
    }

    private static void promise33Ties() {
        Sentence s = Sentence.ofPromise(33, "Returns the vault at a rank when vaults are sorted by value in descending "
            + "order, then by dew in ascending order, then by index in ascending order.");
        FlyTreasury x = Treasuries.withVaults(5);
        ranks(s, "all the same", x, 0, 1, 2, 3, 4);
        x.mint(0, 1);
        ranks(s, "a drop more", x, 1, 2, 3, 4, 0);
        x.redeem(4, 1);
        ranks(s, "a drop less", x, 4, 1, 2, 3, 0);
        x.deposit(0, 'g', 1);
        ranks(s, "a gnat more", x, 0, 4, 1, 2, 3);
        x.withdraw(4, 'g', 1);
        ranks(s, "a gnat less", x, 0, 1, 2, 3, 4);
        x.mint(1, 2);
        x.mint(2, 1);
        ranks(s, "dew 10, 11, 12", x, 0, 3, 2, 1, 4);
        FlyTreasury y = new FlyTreasury();
        for (int vault = 0; vault < 5; vault++) {
            y.addVault(vault);
        }
        ranks(s, "all empty", y, 0, 1, 2, 3, 4);
    }

    private static void ranks(Sentence s, String what, FlyTreasury x, int... due) {
        for (int rank = 0; rank < due.length; rank++) {
            s.same(what + ", rank " + rank, x.vaultByValue(rank), due[rank]);
        }
    }

    private static void promise34NoRank() {
        Sentence s = Sentence.ofPromise(34, "Throws `NoSuchElementException` if there is no such rank");
        for (int count : new int[] {0, 5}) {
            Sentence.Maker made = () -> Treasuries.withVaults(count);
            for (int wrong : Treasuries.outside(0, 2)) {
                s.refuses("rank " + wrong, made, NOTHING, x -> x.kindByValue(wrong));
            }
            s.same("rank 0", Check.outcome(() -> made.make().kindByValue(0)), count == 0 ? 'g' : 'h');
            s.same("rank 2", Check.outcome(() -> made.make().kindByValue(2)), count == 0 ? 'h' : 'g');
        }
    }

    private static void promise34Ties() {
        Sentence s = Sentence.ofPromise(34, "Returns the kind at a rank when the kinds are sorted by the value of all "
            + "flies of the kind in all vaults in descending order, then in the order g, m, h.");
        // The flies of each kind in two vaults, and the order that is due at 1 leg for each fly.
        Object[][] rows = {{0, 0, 0, "gmh"}, {1, 1, 1, "gmh"}, {1, 1, 0, "gmh"}, {1, 0, 1, "ghm"}, {0, 1, 1, "mhg"},
            {1, 1, 2, "hgm"}, {1, 2, 1, "mgh"}, {2, 1, 1, "gmh"}, {2, 2, 1, "gmh"}, {2, 1, 2, "ghm"}, {1, 2, 2, "mhg"},
            {3, 2, 1, "gmh"}, {3, 1, 2, "ghm"}, {2, 3, 1, "mgh"}, {1, 3, 2, "mhg"}, {2, 1, 3, "hgm"}, {1, 2, 3, "hmg"}};
        for (Object[] row : rows) {
            FlyTreasury x = new FlyTreasury();
            x.addVault(0);
            x.addVault(0);
            for (int i = 0; i < 3; i++) {
                x.setRate(KINDS[i], 1);
                Treasuries.put(x, 0, KINDS[i], (int) row[i] / 2);
                Treasuries.put(x, 1, KINDS[i], (int) row[i] - (int) row[i] / 2);
            }
            String order = "" + x.kindByValue(0) + x.kindByValue(1) + x.kindByValue(2);
            s.same(row[0] + " gnats, " + row[1] + " midges, " + row[2] + " hawkmoths", order, row[3]);
        }
        FlyTreasury crumbs = crumbsAlone();
        s.same("crumbs are of no kind", crumbs.kindByValue(0), 'g');
        FlyTreasury valued = Treasuries.withVaults(1);
        s.same("40, 18 and 8 legs", "" + valued.kindByValue(0) + valued.kindByValue(1) + valued.kindByValue(2), "hmg");
    }
}
