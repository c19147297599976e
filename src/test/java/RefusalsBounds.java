import java.util.NoSuchElementException;

/** The boundary cases of "Changes" that are about calls that throw an exception. */
final class RefusalsBounds {
    private static final Class<IndexOutOfBoundsException> INDEX = IndexOutOfBoundsException.class;
    private static final Class<IllegalArgumentException> ARGUMENT = IllegalArgumentException.class;
    private static final Class<IllegalStateException> STATE = IllegalStateException.class;
    private static final Class<UnsupportedOperationException> UNSUPPORTED = UnsupportedOperationException.class;
    private static final Class<NoSuchElementException> NOTHING = NoSuchElementException.class;

    private RefusalsBounds() {
    }

    static void run() {
        Sentence.testEach(RefusalsBounds::refusedChangesChangeNothing, RefusalsBounds::refusedQuestionsChangeNothing,
            RefusalsBounds::refusedScriptsChangeNothingElse, RefusalsBounds::firstOfAddVaultAndDeposit,
            RefusalsBounds::firstOfWithdraw, RefusalsBounds::firstOfExchange, RefusalsBounds::firstOfMintAndRedeem,
            RefusalsBounds::firstOfTheOthers, RefusalsBounds::firstOfScripts);
    }

    private static FlyTreasury five() {
        return Treasuries.withVaults(5);
    }

    private static FlyTreasury two() {
        return Treasuries.withVaults(2);
    }

    private static FlyTreasury fullOfGnats() {
        return Treasuries.withFlies('g', 99);
    }

    private static FlyTreasury fullBuffer() {
        FlyTreasury x = Treasuries.lived();
        Treasuries.type(x, "y".repeat(58));
        return x;
    }

    private static Sentence nothing() {
        return Sentence.ofSection("Changes", "A method that throws an exception changes nothing unless its description "
            + "says otherwise.");
    }

    private static void refusedChangesChangeNothing() {
        Sentence s = nothing();
        s.refuses("addVault", RefusalsBounds::five, STATE, x -> x.addVault(3));
        s.refuses("deposit", RefusalsBounds::fullOfGnats, STATE, x -> x.deposit(0, 'g', 1));
        s.refuses("withdraw", RefusalsBounds::two, UNSUPPORTED, x -> x.withdraw(1, 'g', 5));
        s.refuses("exchange", RefusalsBounds::two, UNSUPPORTED, x -> x.exchange(1, 'm', 'g', 4));
        s.refuses("mint", RefusalsBounds::two, UNSUPPORTED, x -> x.mint(1, 99));
        s.refuses("redeem", RefusalsBounds::two, UNSUPPORTED, x -> x.redeem(1, 11));
        s.refuses("audit", Treasuries::frozen, STATE, x -> x.audit(0));
        s.refuses("setRate", RefusalsBounds::two, ARGUMENT, x -> x.setRate('g', 51));
        s.refuses("setStickiness", RefusalsBounds::two, ARGUMENT, x -> x.setStickiness(1, 10));
        s.refuses("passDays", RefusalsBounds::two, ARGUMENT, x -> x.passDays(31));
        s.refuses("type", RefusalsBounds::fullBuffer, STATE, x -> x.type('y'));
    }

    private static void refusedQuestionsChangeNothing() {
        Sentence s = nothing();
        s.refuses("flies", RefusalsBounds::two, INDEX, x -> x.flies(2, 'g'));
        s.refuses("daysUntilThaw", RefusalsBounds::two, NOTHING, x -> x.daysUntilThaw(0));
        s.refuses("mostFliesByExchanges", RefusalsBounds::two, ARGUMENT, x -> x.mostFliesByExchanges(0, 'x'));
        s.refuses("vaultByValue", RefusalsBounds::two, NOTHING, x -> x.vaultByValue(2));
        s.refuses("kindByValue", RefusalsBounds::two, NOTHING, x -> (int) x.kindByValue(3));
        s.refuses("meanValue", Treasuries::lived, ArithmeticException.class, x -> x.meanValue());
        s.refuses("soundShare", RefusalsBounds::two, ArithmeticException.class, x -> x.soundShare());
        s.refuses("renderVault keeps the text", RefusalsBounds::two, INDEX, x -> x.renderVault(2));
        s.refuses("outputAt", RefusalsBounds::two, INDEX, x -> x.outputAt(9));
        s.refuses("undo", RefusalsBounds::nothingToUndo, STATE, x -> x.undo());
        s.refuses("restore", FlyTreasury::new, STATE, x -> x.restore());
        s.refuses("errorPosition", FlyTreasury::new, NOTHING, x -> x.errorPosition());
        s.refuses("failedCommand", FlyTreasury::new, NOTHING, x -> x.failedCommand());
    }

    private static FlyTreasury nothingToUndo() {
        FlyTreasury x = two();
        x.restore();
        return x;
    }

    private static void refusedScriptsChangeNothingElse() {
        Sentence s = nothing();
        for (String refused : new String[] {"", "day;x", "day;put 0 g1;", "day 0", "day;vault 3;put 0 g1;put 9 g1",
            "mint 0 5;melt 0 1;take 0 g1;stick 0 10", "rate g7;swap 0 hg1;audit 0;audit 7"}) {
            FlyTreasury x = twoAfterAScript();
            Treasuries.run(x, refused);
            s.same("runScript of '" + refused + "'", afterTheSameErrors(x), afterTheSameErrors(twoAfterAScript()));
        }
    }

    private static FlyTreasury twoAfterAScript() {
        FlyTreasury x = two();
        x.type('y');
        x.runScript();
        return x;
    }

    /** The error position and the failed command are made equal, since they may differ. */
    private static String afterTheSameErrors(FlyTreasury x) {
        Treasuries.run(x, "dax");
        Treasuries.run(x, "day 99");
        return Trace.of(x);
    }

    private static Sentence first() {
        return Sentence.ofSection("Changes", "If several exceptions apply, the one that is listed first is thrown.");
    }

    private static void firstOfAddVaultAndDeposit() {
        Sentence s = first();
        s.refuses("addVault: stickiness 10, 5 vaults", RefusalsBounds::five, ARGUMENT, x -> x.addVault(10));
        s.refuses("addVault: stickiness -1, 5 vaults", RefusalsBounds::five, ARGUMENT, x -> x.addVault(-1));
        s.refuses("deposit: no vault, no kind", RefusalsBounds::two, INDEX, x -> x.deposit(2, 'x', 1));
        s.refuses("deposit: no vault, 31 flies", RefusalsBounds::two, INDEX, x -> x.deposit(2, 'g', 31));
        s.refuses("deposit: no vault, no kind, 0 flies", RefusalsBounds::two, INDEX, x -> x.deposit(-1, 'x', 0));
        s.refuses("deposit: 31 flies, full", RefusalsBounds::fullOfGnats, ARGUMENT, x -> x.deposit(0, 'g', 31));
        s.refuses("deposit: greatest int, full", RefusalsBounds::fullOfGnats, ARGUMENT,
            x -> x.deposit(0, 'g', Integer.MAX_VALUE));
    }

    private static void firstOfWithdraw() {
        Sentence s = first();
        s.refuses("no vault, no kind", RefusalsBounds::two, INDEX, x -> x.withdraw(2, 'x', 1));
        s.refuses("no vault, 31 flies", RefusalsBounds::two, INDEX, x -> x.withdraw(2, 'g', 31));
        s.refuses("no vault, no kind, frozen others", Treasuries::frozen, INDEX, x -> x.withdraw(1, 'x', 0));
        s.refuses("no kind, frozen", Treasuries::frozen, ARGUMENT, x -> x.withdraw(0, 'x', 1));
        s.refuses("0 flies, frozen", Treasuries::frozen, ARGUMENT, x -> x.withdraw(0, 'h', 0));
        s.refuses("31 flies, frozen, fewer flies", Treasuries::frozen, ARGUMENT, x -> x.withdraw(0, 'h', 31));
        s.refuses("31 flies, fewer flies", RefusalsBounds::two, ARGUMENT, x -> x.withdraw(0, 'g', 31));
        s.refuses("frozen, fewer flies", Treasuries::frozen, STATE, x -> x.withdraw(0, 'h', 11));
        s.refuses("frozen, none of the kind", Treasuries::frozen, STATE, x -> x.withdraw(0, 'm', 1));
        s.refuses("frozen, not sound", Treasuries::frozen, STATE, x -> x.withdraw(0, 'h', 1));
    }

    private static void firstOfExchange() {
        Sentence s = first();
        s.refuses("no vault, no kind", RefusalsBounds::two, INDEX, x -> x.exchange(2, 'x', 'g', 1));
        s.refuses("no vault, the same kinds", RefusalsBounds::two, INDEX, x -> x.exchange(2, 'g', 'g', 1));
        s.refuses("no vault, 31 flies", RefusalsBounds::two, INDEX, x -> x.exchange(2, 'g', 'm', 31));
        s.refuses("no first kind, frozen", Treasuries::frozen, ARGUMENT, x -> x.exchange(0, 'x', 'g', 1));
        s.refuses("no second kind, frozen", Treasuries::frozen, ARGUMENT, x -> x.exchange(0, 'h', 'x', 1));
        s.refuses("the same kinds, frozen", Treasuries::frozen, ARGUMENT, x -> x.exchange(0, 'h', 'h', 1));
        s.refuses("0 flies, frozen", Treasuries::frozen, ARGUMENT, x -> x.exchange(0, 'h', 'm', 0));
        s.refuses("31 flies, frozen", Treasuries::frozen, ARGUMENT, x -> x.exchange(0, 'h', 'm', 31));
        s.refuses("31 flies, fewer flies", RefusalsBounds::two, ARGUMENT, x -> x.exchange(0, 'g', 'm', 31));
        s.refuses("the same kinds, fewer flies", RefusalsBounds::two, ARGUMENT, x -> x.exchange(0, 'g', 'g', 5));
        s.refuses("frozen, fewer flies", Treasuries::frozen, STATE, x -> x.exchange(0, 'h', 'm', 11));
        s.refuses("frozen, more than 99", RefusalsBounds::frozenAndFull, STATE, x -> x.exchange(0, 'h', 'g', 1));
    }

    private static FlyTreasury frozenAndFull() {
        FlyTreasury x = Treasuries.frozen();
        Treasuries.put(x, 0, 'g', 99);
        x.setRate('h', 50);
        return x;
    }

    private static void firstOfMintAndRedeem() {
        Sentence s = first();
        s.refuses("mint: no vault, 0 drops", RefusalsBounds::two, INDEX, x -> x.mint(2, 0));
        s.refuses("mint: no vault, 100 drops", RefusalsBounds::two, INDEX, x -> x.mint(-1, 100));
        s.refuses("mint: 0 drops, frozen", Treasuries::frozen, ARGUMENT, x -> x.mint(0, 0));
        s.refuses("mint: 100 drops, frozen", Treasuries::frozen, ARGUMENT, x -> x.mint(0, 100));
        s.refuses("mint: 100 drops, not sound", RefusalsBounds::two, ARGUMENT, x -> x.mint(0, 100));
        s.refuses("mint: frozen, not sound", Treasuries::frozen, STATE, x -> x.mint(0, 1));
        s.refuses("redeem: no vault, 0 drops", RefusalsBounds::two, INDEX, x -> x.redeem(2, 0));
        s.refuses("redeem: no vault, 100 drops", RefusalsBounds::two, INDEX, x -> x.redeem(-1, 100));
        s.refuses("redeem: 100 drops, less dew", RefusalsBounds::two, ARGUMENT, x -> x.redeem(0, 100));
        s.refuses("redeem: greatest int, less dew", RefusalsBounds::two, ARGUMENT, x -> x.redeem(0, Integer.MAX_VALUE));
    }

    private static void firstOfTheOthers() {
        Sentence s = first();
        s.refuses("setStickiness: no vault, 10", RefusalsBounds::two, INDEX, x -> x.setStickiness(2, 10));
        s.refuses("setStickiness: no vault, -1", RefusalsBounds::two, INDEX, x -> x.setStickiness(-1, -1));
        s.refuses("flies: no vault, no kind", RefusalsBounds::two, INDEX, x -> x.flies(2, 'x'));
        s.refuses("mostFlies: no vault, no kind", RefusalsBounds::two, INDEX, x -> x.mostFlies(2, 'x'));
        s.refuses("mostFliesByExchanges: no vault, no kind", RefusalsBounds::two, INDEX,
            x -> x.mostFliesByExchanges(2, 'x'));
        s.refuses("daysUntilThaw: no vault", Treasuries::frozen, INDEX, x -> x.daysUntilThaw(1));
        s.refuses("type: 31, full", RefusalsBounds::fullBuffer, ARGUMENT, x -> x.type((char) 31));
        s.refuses("type: 127, full", RefusalsBounds::fullBuffer, ARGUMENT, x -> x.type((char) 127));
    }

    private static void firstOfScripts() {
        Sentence s = first();
        FlyTreasury x = new FlyTreasury();
        s.same("runScript: no form, a failing command", Treasuries.run(x, "audit 0;da"), ARGUMENT.getName());
        s.fails("no command failed", NOTHING, () -> x.failedCommand());
        s.same("the form went wrong at the end", x.errorPosition(), 10);
    }
}
