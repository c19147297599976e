/** The boundary cases of promises 1 to 11: a new object and the methods that change a treasury. */
final class ChangesBounds {
    private static final Class<IndexOutOfBoundsException> INDEX = IndexOutOfBoundsException.class;
    private static final Class<IllegalArgumentException> ARGUMENT = IllegalArgumentException.class;
    private static final Class<IllegalStateException> STATE = IllegalStateException.class;
    private static final Class<UnsupportedOperationException> UNSUPPORTED = UnsupportedOperationException.class;
    private static final char[] KINDS = {'g', 'm', 'h'};

    private ChangesBounds() {
    }

    interface VaultCall {
        Object on(FlyTreasury x, int vault);
    }

    static void run() {
        Sentence.testEach(ChangesBounds::promise1, ChangesBounds::promise2Index, ChangesBounds::promise2Stickiness,
            ChangesBounds::promise2FiveVaults, ChangesBounds::promise3Frozen, ChangesBounds::promise3NoVault,
            ChangesBounds::promise3KindOrFlies, ChangesBounds::promise3MoreThan99, ChangesBounds::promise4NoVault,
            ChangesBounds::promise4KindOrFlies, ChangesBounds::promise4Frozen, ChangesBounds::promise4FewerFlies,
            ChangesBounds::promise4NotSound, ChangesBounds::promise5NoVault, ChangesBounds::promise5Kinds,
            ChangesBounds::promise5Flies, ChangesBounds::promise5Frozen, ChangesBounds::promise5FewerFlies,
            ChangesBounds::promise5MoreThan99, ChangesBounds::promise6NoVault, ChangesBounds::promise6Drops,
            ChangesBounds::promise6Frozen, ChangesBounds::promise6NotSound, ChangesBounds::promise7Frozen,
            ChangesBounds::promise7NoVault, ChangesBounds::promise7Drops, ChangesBounds::promise7LessDew,
            ChangesBounds::promise8Sound, ChangesBounds::promise8NoVault, ChangesBounds::promise8Frozen,
            ChangesBounds::promise9KindOrLegs, ChangesBounds::promise10NoVault, ChangesBounds::promise10Stickiness,
            ChangesBounds::promise11Drops, ChangesBounds::promise11Days);
    }

    /** With 0, 1 and 5 vaults: the last vault answers, the next one and all others do not. */
    static void noSuchVault(int promise, VaultCall call) {
        Sentence s = Sentence.ofPromise(promise, "Throws `IndexOutOfBoundsException` if there is no such vault");
        for (int count : new int[] {0, 1, 5}) {
            Sentence.Maker made = () -> Treasuries.withVaults(count);
            for (int wrong : Treasuries.outside(0, count - 1)) {
                s.refuses("vault " + wrong + " of " + count, made, INDEX, x -> call.on(x, wrong));
            }
            for (int vault = 0; vault < count; vault += 4) {
                int last = vault;
                Object answer = Check.outcome(() -> call.on(made.make(), last));
                s.same("vault " + vault + " of " + count + " exists", !INDEX.getName().equals(answer), true);
            }
        }
    }

    private static FlyTreasury empty() {
        return Treasuries.withFlies('g', 0);
    }

    private static void promise1() {
        Sentence s = Sentence.ofPromise(1, "Creates a treasury without vaults on day 0.");
        s.answers("no vaults", FlyTreasury::new, x -> x.vaultCount(), 0);
        s.answers("day", FlyTreasury::new, x -> x.day(), 0);
        s.fails("vault 0", INDEX, () -> new FlyTreasury().value(0));
        FlyTreasury other = Treasuries.withVaults(5);
        other.passDays(30);
        s.answers("no vaults beside another object", FlyTreasury::new, x -> x.vaultCount(), 0);
        s.same("alike", Trace.of(new FlyTreasury()), Trace.of(new FlyTreasury()));
    }

    private static void promise2Index() {
        Sentence s = Sentence.ofPromise(2, "Returns the index of the vault.");
        s.answers("the first", Treasuries::lived, x -> x.addVault(3), 0);
        s.answers("the last", () -> Treasuries.withVaults(4), x -> x.addVault(3), 4);
    }

    private static void promise2Stickiness() {
        Sentence s = Sentence.ofPromise(2, "Throws `IllegalArgumentException` if stickiness is not between 0 and 9");
        for (int right : new int[] {0, 9}) {
            FlyTreasury x = Treasuries.lived();
            x.addVault(right);
            s.same("stickiness " + right, x.stickiness(0), right);
        }
        for (int wrong : Treasuries.outside(0, 9)) {
            s.refuses("stickiness " + wrong, Treasuries::lived, ARGUMENT, x -> x.addVault(wrong));
        }
    }

    private static void promise2FiveVaults() {
        Sentence s = Sentence.ofPromise(2, "Throws `IllegalStateException` if there are 5 vaults");
        s.answers("with 4", () -> Treasuries.withVaults(4), x -> x.addVault(0), 4);
        s.refuses("with 5, stickiness 0", () -> Treasuries.withVaults(5), STATE, x -> x.addVault(0));
        s.refuses("with 5, stickiness 9", () -> Treasuries.withVaults(5), STATE, x -> x.addVault(9));
        FlyTreasury x = Treasuries.withVaults(4);
        x.addVault(0);
        x.undo();
        s.same("with 4 again after undo", x.addVault(1), 4);
    }

    private static void promise3Frozen() {
        Sentence s = Sentence.ofPromise(3, "Puts flies into a vault, which may be frozen.");
        s.answers("frozen for 5 days", Treasuries::frozen, x -> x.deposit(0, 'h', 30), 40);
        s.answers("frozen for a day", () -> Treasuries.frozenSince(4), x -> x.deposit(0, 'g', 1), 1);
        s.answers("not frozen", () -> Treasuries.frozenSince(5), x -> x.deposit(0, 'g', 1), 1);
    }

    private static void promise3NoVault() {
        noSuchVault(3, (x, vault) -> x.deposit(vault, 'g', 1));
    }

    private static void promise3KindOrFlies() {
        Sentence s = Sentence.ofPromise(3, "Throws `IllegalArgumentException` if kind is not 'g', 'm' or 'h', or flies "
            + "is not between 1 and 30");
        for (char kind : KINDS) {
            s.answers("1 of " + kind, ChangesBounds::empty, x -> x.deposit(0, kind, 1), 1);
            s.answers("30 of " + kind, ChangesBounds::empty, x -> x.deposit(0, kind, 30), 30);
            for (int wrong : Treasuries.outside(1, 30)) {
                s.refuses(wrong + " of " + kind, ChangesBounds::empty, ARGUMENT, x -> x.deposit(0, kind, wrong));
            }
        }
        for (char wrong : Treasuries.noKinds()) {
            s.refuses("kind " + (int) wrong, ChangesBounds::empty, ARGUMENT, x -> x.deposit(0, wrong, 1));
        }
    }

    private static void promise3MoreThan99() {
        Sentence s = Sentence.ofPromise(3, "Throws `IllegalStateException` if the vault would have more than 99 flies "
            + "of this kind");
        for (char kind : KINDS) {
            s.answers("90 and 9 of " + kind, () -> Treasuries.withFlies(kind, 90), x -> x.deposit(0, kind, 9), 99);
            s.refuses("90 and 10 of " + kind, () -> Treasuries.withFlies(kind, 90), STATE, x -> x.deposit(0, kind, 10));
            s.answers("69 and 30 of " + kind, () -> Treasuries.withFlies(kind, 69), x -> x.deposit(0, kind, 30), 99);
            s.refuses("70 and 30 of " + kind, () -> Treasuries.withFlies(kind, 70), STATE, x -> x.deposit(0, kind, 30));
            s.answers("98 and 1 of " + kind, () -> Treasuries.withFlies(kind, 98), x -> x.deposit(0, kind, 1), 99);
            s.refuses("99 and 1 of " + kind, () -> Treasuries.withFlies(kind, 99), STATE, x -> x.deposit(0, kind, 1));
            char other = kind == 'g' ? 'm' : 'g';
            s.answers("99 of " + kind + ", another kind", () -> Treasuries.withFlies(kind, 99),
                x -> x.deposit(0, other, 30), 30);
            s.answers("99 of " + kind + ", another vault", () -> secondVault(kind), x -> x.deposit(1, kind, 30), 30);
        }
    }

    private static FlyTreasury secondVault(char kind) {
        FlyTreasury x = Treasuries.withFlies(kind, 99);
        x.addVault(0);
        return x;
    }

    private static void promise4NoVault() {
        noSuchVault(4, (x, vault) -> x.withdraw(vault, 'g', 1));
    }

    private static void promise4KindOrFlies() {
        Sentence s = Sentence.ofPromise(4, "Throws `IllegalArgumentException` if kind is not 'g', 'm' or 'h', or flies "
            + "is not between 1 and 30");
        for (char kind : KINDS) {
            Sentence.Maker made = () -> Treasuries.withFlies(kind, 99);
            s.answers("1 of " + kind, made, x -> x.withdraw(0, kind, 1), 98);
            s.answers("30 of " + kind, made, x -> x.withdraw(0, kind, 30), 69);
            for (int wrong : Treasuries.outside(1, 30)) {
                s.refuses(wrong + " of " + kind, made, ARGUMENT, x -> x.withdraw(0, kind, wrong));
            }
        }
        for (char wrong : Treasuries.noKinds()) {
            s.refuses("kind " + (int) wrong, () -> Treasuries.withVaults(1), ARGUMENT, x -> x.withdraw(0, wrong, 1));
        }
    }

    private static void promise4Frozen() {
        Sentence s = Sentence.ofPromise(4, "Throws `IllegalStateException` if the vault is frozen");
        s.refuses("frozen for 5 days", () -> soundButFrozen(0), STATE, x -> x.withdraw(0, 'h', 1));
        s.refuses("frozen for a day", () -> soundButFrozen(4), STATE, x -> x.withdraw(0, 'h', 1));
        s.answers("not frozen", () -> soundButFrozen(5), x -> x.withdraw(0, 'h', 1), 9);
    }

    private static FlyTreasury soundButFrozen(int days) {
        FlyTreasury x = Treasuries.frozenSince(days);
        x.setRate('h', 50);
        return x;
    }

    private static final String WITHDRAW = "Throws `UnsupportedOperationException` if the vault has fewer flies of "
        + "this kind, or would not be sound afterwards";

    private static void promise4FewerFlies() {
        Sentence s = Sentence.ofPromise(4, WITHDRAW);
        for (char kind : KINDS) {
            s.answers("all 7 of " + kind, () -> Treasuries.withFlies(kind, 7), x -> x.withdraw(0, kind, 7), 0);
            s.refuses("8 of 7 of " + kind, () -> Treasuries.withFlies(kind, 7), UNSUPPORTED,
                x -> x.withdraw(0, kind, 8));
            s.refuses("none of " + kind, ChangesBounds::empty, UNSUPPORTED, x -> x.withdraw(0, kind, 1));
        }
        // The legs of 5 gnats could be spared, but there are only 4 gnats.
        s.refuses("fewer, but sound", () -> Treasuries.withVaults(1), UNSUPPORTED, x -> x.withdraw(0, 'g', 5));
    }

    private static void promise4NotSound() {
        Sentence s = Sentence.ofPromise(4, WITHDRAW);
        // Half of 200 legs is reserve: 80 drops are sound down to 160 legs.
        s.answers("80 drops, 160 legs", () -> half(80), x -> x.withdraw(0, 'h', 2), 8);
        s.refuses("81 drops, 160 legs", () -> half(81), UNSUPPORTED, x -> x.withdraw(0, 'h', 2));
        s.refuses("80 drops, 140 legs", () -> half(80), UNSUPPORTED, x -> x.withdraw(0, 'h', 3));
        s.refuses("1 drop, 0 legs", () -> half(1), UNSUPPORTED, x -> x.withdraw(0, 'h', 10));
        s.answers("0 drops, 0 legs", () -> half(0), x -> x.withdraw(0, 'h', 10), 0);
        // 19 legs have a reserve of 9.5, which is 9.
        s.answers("10 drops, 19 legs", () -> nineteen(10), x -> x.withdraw(0, 'h', 9), 1);
        s.refuses("11 drops, 19 legs", () -> nineteen(11), UNSUPPORTED, x -> x.withdraw(0, 'h', 9));
        FlyTreasury unsound = half(80);
        unsound.setRate('h', 1);
        s.fails("not sound before either", UNSUPPORTED, () -> unsound.withdraw(0, 'h', 1));
    }

    private static FlyTreasury half(int drops) {
        FlyTreasury x = Treasuries.withFlies('h', 10);
        x.setStickiness(0, 5);
        Treasuries.issue(x, 0, drops);
        return x;
    }

    private static FlyTreasury nineteen(int drops) {
        FlyTreasury x = half(drops);
        x.setRate('h', 19);
        return x;
    }

    private static void promise5NoVault() {
        noSuchVault(5, (x, vault) -> x.exchange(vault, 'g', 'm', 1));
    }

    private static final String EXCHANGE = "Throws `IllegalArgumentException` if from or to is not 'g', 'm' or 'h', or "
        + "both are the same, or flies is not between 1 and 30";

    private static void promise5Kinds() {
        Sentence s = Sentence.ofPromise(5, EXCHANGE);
        Sentence.Maker made = () -> Treasuries.withVaults(1);
        int[][] received = {{-1, 0, 0}, {3, -1, 0}, {10, 3, -1}};
        for (int from = 0; from < 3; from++) {
            for (int to = 0; to < 3; to++) {
                char given = KINDS[from];
                char wanted = KINDS[to];
                String what = "from " + given + " to " + wanted;
                if (from == to) {
                    s.refuses(what, made, ARGUMENT, x -> x.exchange(0, given, wanted, 1));
                } else {
                    s.answers(what, made, x -> x.exchange(0, given, wanted, 1), received[from][to]);
                }
            }
        }
        for (char wrong : Treasuries.noKinds()) {
            s.refuses("from " + (int) wrong, made, ARGUMENT, x -> x.exchange(0, wrong, 'g', 1));
            s.refuses("to " + (int) wrong, made, ARGUMENT, x -> x.exchange(0, 'g', wrong, 1));
            s.refuses("both " + (int) wrong, made, ARGUMENT, x -> x.exchange(0, wrong, wrong, 1));
        }
    }

    private static void promise5Flies() {
        Sentence s = Sentence.ofPromise(5, EXCHANGE);
        Sentence.Maker made = () -> Treasuries.withFlies('g', 99);
        s.answers("1 fly", made, x -> x.exchange(0, 'g', 'm', 1), 0);
        s.answers("30 flies", made, x -> x.exchange(0, 'g', 'm', 30), 10);
        for (int wrong : Treasuries.outside(1, 30)) {
            s.refuses(wrong + " flies", made, ARGUMENT, x -> x.exchange(0, 'g', 'm', wrong));
        }
    }

    private static void promise5Frozen() {
        Sentence s = Sentence.ofPromise(5, "Throws `IllegalStateException` if the vault is frozen");
        s.refuses("frozen for 5 days", () -> soundButFrozen(0), STATE, x -> x.exchange(0, 'h', 'm', 1));
        s.refuses("frozen for a day", () -> soundButFrozen(4), STATE, x -> x.exchange(0, 'h', 'm', 1));
        s.answers("not frozen", () -> soundButFrozen(5), x -> x.exchange(0, 'h', 'm', 1), 8);
        s.answers("not frozen and not sound", () -> Treasuries.frozenSince(5), x -> x.exchange(0, 'h', 'm', 6), 1);
    }

    private static final String EXCHANGE_LIMITS = "Throws `UnsupportedOperationException` if the vault has fewer flies "
        + "of the first kind, or would have more than 99 flies of the second kind";

    private static void promise5FewerFlies() {
        Sentence s = Sentence.ofPromise(5, EXCHANGE_LIMITS);
        for (char kind : KINDS) {
            char other = kind == 'm' ? 'h' : 'm';
            FlyTreasury x = Treasuries.withFlies(kind, 4);
            x.exchange(0, kind, other, 4);
            s.same("all 4 of " + kind, x.flies(0, kind), 0);
            s.refuses("5 of 4 of " + kind, () -> Treasuries.withFlies(kind, 4), UNSUPPORTED,
                y -> y.exchange(0, kind, other, 5));
            s.refuses("none of " + kind, ChangesBounds::empty, UNSUPPORTED, y -> y.exchange(0, kind, other, 1));
        }
    }

    private static void promise5MoreThan99() {
        Sentence s = Sentence.ofPromise(5, EXCHANGE_LIMITS);
        s.answers("89 and 10", () -> gnatsAndHawkmoths(89), x -> x.exchange(0, 'h', 'g', 1), 10);
        s.refuses("90 and 10", () -> gnatsAndHawkmoths(90), UNSUPPORTED, x -> x.exchange(0, 'h', 'g', 1));
        s.answers("0 and 90", () -> gnatsAndHawkmoths(0), x -> x.exchange(0, 'h', 'g', 9), 90);
        s.refuses("0 and 100", () -> gnatsAndHawkmoths(0), UNSUPPORTED, x -> x.exchange(0, 'h', 'g', 10));
        s.refuses("0 and 1500", ChangesBounds::dear, UNSUPPORTED, x -> x.exchange(0, 'h', 'g', 30));
        s.answers("99 and 0", ChangesBounds::fullOfHawkmoths, x -> x.exchange(0, 'g', 'h', 9), 0);
        s.refuses("99 and 1", ChangesBounds::fullOfHawkmoths, UNSUPPORTED, x -> x.exchange(0, 'g', 'h', 10));
        // 18 crumbs are 9 gnats.
        s.answers("80 and 19, 9 of them for crumbs", () -> withCrumbs(80), x -> x.exchange(0, 'h', 'g', 1), 19);
        s.refuses("81 and 19, 9 of them for crumbs", () -> withCrumbs(81), UNSUPPORTED,
            x -> x.exchange(0, 'h', 'g', 1));
    }

    private static FlyTreasury gnatsAndHawkmoths(int gnats) {
        FlyTreasury x = Treasuries.withFlies('g', gnats);
        x.deposit(0, 'h', 20);
        return x;
    }

    private static FlyTreasury dear() {
        FlyTreasury x = Treasuries.withFlies('h', 30);
        x.setRate('h', 50);
        x.setRate('g', 1);
        return x;
    }

    private static FlyTreasury fullOfHawkmoths() {
        FlyTreasury x = Treasuries.withFlies('h', 99);
        x.deposit(0, 'g', 10);
        return x;
    }

    private static FlyTreasury withCrumbs(int gnats) {
        FlyTreasury x = gnatsAndHawkmoths(gnats);
        x.deposit(0, 'm', 3);
        x.exchange(0, 'm', 'h', 3);
        return x;
    }

    private static void promise6NoVault() {
        noSuchVault(6, (x, vault) -> x.mint(vault, 1));
    }

    private static void promise6Drops() {
        Sentence s = Sentence.ofPromise(6, "Throws `IllegalArgumentException` if drops is not between 1 and 99");
        Sentence.Maker made = () -> Treasuries.withFlies('h', 99);
        s.answers("1", made, x -> x.mint(0, 1), 1);
        s.answers("99", made, x -> x.mint(0, 99), 99);
        for (int wrong : Treasuries.outside(1, 99)) {
            s.refuses(wrong + " drops", made, ARGUMENT, x -> x.mint(0, wrong));
        }
    }

    private static void promise6Frozen() {
        Sentence s = Sentence.ofPromise(6, "Throws `IllegalStateException` if the vault is frozen");
        s.refuses("frozen for 5 days", () -> soundButFrozen(0), STATE, x -> x.mint(0, 1));
        s.refuses("frozen for a day", () -> soundButFrozen(4), STATE, x -> x.mint(0, 1));
        s.answers("not frozen", () -> soundButFrozen(5), x -> x.mint(0, 1), 56);
    }

    private static void promise6NotSound() {
        Sentence s = Sentence.ofPromise(6, "Throws `UnsupportedOperationException` if the vault would not be sound "
            + "afterwards");
        s.answers("1 drop to 100 of 100", () -> half(99), x -> x.mint(0, 1), 100);
        s.refuses("2 drops to 101 of 100", () -> half(99), UNSUPPORTED, x -> x.mint(0, 2));
        s.refuses("1 drop to 101 of 100", () -> half(100), UNSUPPORTED, x -> x.mint(0, 1));
        s.answers("99 drops to 100 of 100", () -> half(1), x -> x.mint(0, 99), 100);
        s.refuses("99 drops to 101 of 100", () -> half(2), UNSUPPORTED, x -> x.mint(0, 99));
        s.refuses("1 drop of an empty vault", ChangesBounds::empty, UNSUPPORTED, x -> x.mint(0, 1));
        s.refuses("1 drop of an unsound vault", () -> nineteen(100), UNSUPPORTED, x -> x.mint(0, 1));
    }

    private static void promise7Frozen() {
        Sentence s = Sentence.ofPromise(7, "Takes dew of a vault back, which may be frozen.");
        s.answers("frozen for 5 days", Treasuries::frozen, x -> x.redeem(0, 60), 0);
        s.answers("frozen for a day", () -> Treasuries.frozenSince(4), x -> x.redeem(0, 1), 55);
        s.answers("not frozen", () -> Treasuries.frozenSince(5), x -> x.redeem(0, 1), 54);
    }

    private static void promise7NoVault() {
        noSuchVault(7, (x, vault) -> x.redeem(vault, 1));
    }

    private static void promise7Drops() {
        Sentence s = Sentence.ofPromise(7, "Throws `IllegalArgumentException` if drops is not between 1 and 99");
        s.answers("1", () -> half(100), x -> x.redeem(0, 1), 99);
        s.answers("99", () -> half(100), x -> x.redeem(0, 99), 1);
        for (int wrong : Treasuries.outside(1, 99)) {
            s.refuses(wrong + " drops", () -> half(100), ARGUMENT, x -> x.redeem(0, wrong));
        }
    }

    private static void promise7LessDew() {
        Sentence s = Sentence.ofPromise(7, "Throws `UnsupportedOperationException` if the vault has less dew");
        s.answers("all 10", () -> half(10), x -> x.redeem(0, 10), 0);
        s.refuses("11 of 10", () -> half(10), UNSUPPORTED, x -> x.redeem(0, 11));
        s.refuses("1 of 0", () -> half(0), UNSUPPORTED, x -> x.redeem(0, 1));
        s.answers("the last of 10 after 9 days", ChangesBounds::nineDaysLater, x -> x.redeem(0, 1), 0);
        s.refuses("2 of 10 after 9 days", ChangesBounds::nineDaysLater, UNSUPPORTED, x -> x.redeem(0, 2));
    }

    private static FlyTreasury nineDaysLater() {
        FlyTreasury x = half(10);
        x.passDays(9);
        return x;
    }

    private static void promise8Sound() {
        Sentence s = Sentence.ofPromise(8, "Returns true if it is sound.");
        s.answers("empty", ChangesBounds::empty, x -> x.audit(0), true);
        s.answers("100 drops of 100", () -> half(100), x -> x.audit(0), true);
        s.answers("96 drops of 95", () -> nineteen(96), x -> x.audit(0), false);
        s.answers("95 drops of 95", () -> nineteen(95), x -> x.audit(0), true);
    }

    private static void promise8NoVault() {
        noSuchVault(8, (x, vault) -> x.audit(vault));
    }

    private static void promise8Frozen() {
        Sentence s = Sentence.ofPromise(8, "Throws `IllegalStateException` if the vault is frozen");
        s.refuses("frozen for 5 days", Treasuries::frozen, STATE, x -> x.audit(0));
        s.refuses("frozen for a day", () -> Treasuries.frozenSince(4), STATE, x -> x.audit(0));
        s.refuses("frozen and sound", () -> soundButFrozen(4), STATE, x -> x.audit(0));
        s.answers("not frozen, not sound", () -> Treasuries.frozenSince(5), x -> x.audit(0), false);
        s.answers("not frozen, sound", () -> soundButFrozen(5), x -> x.audit(0), true);
    }

    private static void promise9KindOrLegs() {
        Sentence s = Sentence.ofPromise(9, "Throws `IllegalArgumentException` if kind is not 'g', 'm' or 'h', or legs "
            + "is not between 1 and 50");
        int[] rates = {2, 6, 20};
        for (int i = 0; i < 3; i++) {
            char kind = KINDS[i];
            s.answers("1 for " + kind, Treasuries::lived, x -> x.setRate(kind, 1), rates[i]);
            s.answers("50 for " + kind, Treasuries::lived, x -> x.setRate(kind, 50), rates[i]);
            for (int wrong : Treasuries.outside(1, 50)) {
                s.refuses(wrong + " for " + kind, Treasuries::lived, ARGUMENT, x -> x.setRate(kind, wrong));
            }
        }
        for (char wrong : Treasuries.noKinds()) {
            s.refuses("kind " + (int) wrong, Treasuries::lived, ARGUMENT, x -> x.setRate(wrong, 1));
        }
    }

    private static void promise10NoVault() {
        noSuchVault(10, (x, vault) -> x.setStickiness(vault, 1));
    }

    private static void promise10Stickiness() {
        Sentence s = Sentence.ofPromise(10, "Throws `IllegalArgumentException` if stickiness is not between 0 and 9");
        for (int right : new int[] {0, 9}) {
            FlyTreasury x = half(0);
            s.same("previous", x.setStickiness(0, right), 5);
            s.same("stickiness " + right, x.setStickiness(0, 5), right);
        }
        for (int wrong : Treasuries.outside(0, 9)) {
            s.refuses("stickiness " + wrong, () -> half(5), ARGUMENT, x -> x.setStickiness(0, wrong));
        }
    }

    private static void promise11Drops() {
        Sentence s = Sentence.ofPromise(11, "Returns the number of drops that evaporate in these days.");
        s.answers("without vaults", FlyTreasury::new, x -> x.passDays(30), 0);
        s.answers("without dew", ChangesBounds::empty, x -> x.passDays(30), 0);
        s.answers("29 drops in 30 days", () -> half(29), x -> x.passDays(30), 29);
        s.answers("30 drops in 30 days", () -> half(30), x -> x.passDays(30), 30);
        s.answers("31 drops in 30 days", () -> half(31), x -> x.passDays(30), 30);
        s.answers("5 vaults with 10 drops in 9 days", () -> Treasuries.withVaults(5), x -> x.passDays(9), 45);
        s.answers("5 vaults with 10 drops in 11 days", () -> Treasuries.withVaults(5), x -> x.passDays(11), 50);
    }

    private static void promise11Days() {
        Sentence s = Sentence.ofPromise(11, "Throws `IllegalArgumentException` if days is not between 1 and 30");
        for (int right : new int[] {1, 30}) {
            FlyTreasury x = new FlyTreasury();
            x.passDays(right);
            s.same(right + " days", x.day(), right);
        }
        for (int wrong : Treasuries.outside(1, 30)) {
            s.refuses(wrong + " days", Treasuries::frozen, ARGUMENT, x -> x.passDays(wrong));
        }
    }
}
