import java.lang.reflect.Field;

/** The boundary cases of promises 35 to 46. */
final class TotalsBounds {
    private static final Class<IndexOutOfBoundsException> INDEX = IndexOutOfBoundsException.class;
    private static final Class<ArithmeticException> ARITHMETIC = ArithmeticException.class;

    private TotalsBounds() {
    }

    static void run() {
        Sentence.testEach(TotalsBounds::promise35, TotalsBounds::promise36, TotalsBounds::promise37,
            TotalsBounds::promise38, TotalsBounds::promise39, TotalsBounds::promise40, TotalsBounds::promise41,
            TotalsBounds::promise41NoVaults, TotalsBounds::promise42, TotalsBounds::promise42NoAudit,
            TotalsBounds::promise43, TotalsBounds::promise43Falsified, TotalsBounds::promise43FalsePrediction,
            TotalsBounds::promise44NoVault, TotalsBounds::promise44Frozen, TotalsBounds::promise44Length,
            TotalsBounds::promise45, TotalsBounds::promise46Empty, TotalsBounds::promise46NoIndex);
    }

    private static FlyTreasury two() {
        return Treasuries.withVaults(2);
    }

    private static void promise35() {
        Sentence s = Sentence.ofPromise(35, "Returns the day counter.");
        FlyTreasury x = new FlyTreasury();
        s.same("at first", x.day(), 0);
        Check.outcome(() -> x.passDays(31));
        Check.outcome(() -> x.passDays(0));
        s.same("after refused calls", x.day(), 0);
        x.passDays(1);
        x.passDays(30);
        s.same("after 31 days", x.day(), 31);
    }

    private static void promise36() {
        Sentence s = Sentence.ofPromise(36, "Returns how many drops have been issued so far.");
        s.answers("none", FlyTreasury::new, x -> x.mintedTotal(), 0);
        FlyTreasury x = two();
        Check.outcome(() -> x.mint(0, 99));
        Check.outcome(() -> x.mint(2, 1));
        s.same("refused ones are not counted", x.mintedTotal(), 20);
        x.redeem(0, 10);
        x.passDays(30);
        s.same("those that are gone are counted", x.mintedTotal(), 20);
    }

    private static void promise37() {
        Sentence s = Sentence.ofPromise(37, "Returns how many drops have been taken back so far.");
        s.answers("none", FlyTreasury::new, x -> x.redeemedTotal(), 0);
        FlyTreasury x = two();
        Check.outcome(() -> x.redeem(0, 11));
        Check.outcome(() -> x.redeem(2, 1));
        x.passDays(1);
        s.same("neither refused ones nor those that evaporated", x.redeemedTotal(), 0);
        x.redeem(0, 9);
        x.redeem(1, 9);
        s.same("all of both vaults", x.redeemedTotal(), 18);
    }

    private static void promise38() {
        Sentence s = Sentence.ofPromise(38, "Returns how many drops have evaporated so far.");
        s.answers("none", FlyTreasury::new, x -> x.evaporatedTotal(), 0);
        FlyTreasury x = two();
        x.redeem(0, 9);
        s.same("those that were taken back are not", x.evaporatedTotal(), 0);
        x.passDays(30);
        s.same("1 and 10", x.evaporatedTotal(), 11);
        x.passDays(30);
        s.same("nothing is left", x.evaporatedTotal(), 11);
    }

    private static void promise39() {
        Sentence s = Sentence.ofPromise(39, "Returns how many audits have been made so far.");
        s.answers("none", FlyTreasury::new, x -> x.auditTotal(), 0);
        FlyTreasury x = Treasuries.frozen();
        Check.outcome(() -> x.audit(0));
        Check.outcome(() -> x.audit(1));
        s.same("refused ones are not counted", x.auditTotal(), 1);
    }

    private static void promise40() {
        Sentence s = Sentence.ofPromise(40, "Returns how many audits found a vault that was sound so far.");
        s.answers("none", FlyTreasury::new, x -> x.soundAuditTotal(), 0);
        FlyTreasury x = Treasuries.frozen();
        s.same("not sound", x.soundAuditTotal(), 0);
        x.setRate('h', 50);
        Check.outcome(() -> x.audit(0));
        s.same("sound, but refused", x.soundAuditTotal(), 0);
        x.passDays(5);
        for (int audit = 0; audit < 5; audit++) {
            x.audit(0);
        }
        s.same("also with 3 wings", x.soundAuditTotal(), 5);
    }

    private static void promise41() {
        Sentence s = Sentence.ofPromise(41, "Returns the mean value of the vaults: totalValue divided by the number of "
            + "vaults, both converted to double.");
        s.answers("one empty vault", () -> Treasuries.withFlies('g', 0), x -> x.meanValue(), 0.0);
        FlyTreasury x = new FlyTreasury();
        x.addVault(0);
        x.setRate('g', 1);
        x.deposit(0, 'g', 7);
        s.same("one vault", x.meanValue(), 7.0);
        for (int count = 2; count <= 5; count++) {
            x.addVault(0);
            s.same("7 legs in " + count, x.meanValue(), 7.0 / (double) count);
        }
    }

    private static void promise41NoVaults() {
        Sentence s = Sentence.ofPromise(41, "Throws `ArithmeticException` if there are no vaults");
        s.refuses("a new object", FlyTreasury::new, ARITHMETIC, x -> x.meanValue());
        s.refuses("a used object", Treasuries::lived, ARITHMETIC, x -> x.meanValue());
        s.answers("one vault", () -> Treasuries.withVaults(1), x -> x.meanValue(), 66.0);
        FlyTreasury x = new FlyTreasury();
        x.addVault(0);
        x.undo();
        s.fails("the only one is undone", ARITHMETIC, () -> x.meanValue());
    }

    private static void promise42() {
        Sentence s = Sentence.ofPromise(42, "Returns the quotient of soundAuditTotal and auditTotal, both converted to "
            + "float.");
        FlyTreasury x = Treasuries.frozen();
        s.same("none of one", x.soundShare(), 0.0f);
        x.addVault(0);
        for (int audits = 2; audits <= 7; audits++) {
            x.audit(1);
            s.same("all but one of " + audits, x.soundShare(), (float) (audits - 1) / (float) audits);
        }
        FlyTreasury y = two();
        y.audit(0);
        s.same("one of one", y.soundShare(), 1.0f);
    }

    private static void promise42NoAudit() {
        Sentence s = Sentence.ofPromise(42, "Throws `ArithmeticException` if there was no audit");
        s.refuses("a new object", FlyTreasury::new, ARITHMETIC, x -> x.soundShare());
        s.refuses("vaults without an audit", TotalsBounds::two, ARITHMETIC, x -> x.soundShare());
        FlyTreasury x = two();
        Check.outcome(() -> x.audit(2));
        s.fails("a refused audit", ARITHMETIC, () -> x.soundShare());
        x.audit(0);
        x.undo();
        s.fails("the only one is undone", ARITHMETIC, () -> x.soundShare());
    }

    private static void promise43() {
        Sentence s = Sentence.ofPromise(43, "Returns true if all of this holds.");
        s.answers("a new object", FlyTreasury::new, x -> x.isConsistent(), true);
        s.answers("empty vaults", () -> Treasuries.withFlies('g', 0), x -> x.isConsistent(), true);
        s.answers("five vaults", () -> Treasuries.withVaults(5), x -> x.isConsistent(), true);
        s.answers("full of gnats", () -> Treasuries.withFlies('g', 99), x -> x.isConsistent(), true);
        s.answers("frozen and not sound", Treasuries::frozen, x -> x.isConsistent(), true);
        s.answers("thawed", () -> Treasuries.frozenSince(5), x -> x.isConsistent(), true);
        FlyTreasury x = two();
        x.exchange(0, 'm', 'h', 1);
        s.same("crumbs", x.isConsistent(), true);
        x.exchange(0, 'h', 'm', 2);
        s.same("flies received", x.isConsistent(), true);
        x.withdraw(0, 'm', 1);
        x.withdraw(0, 'm', 1);
        s.same("flies taken out", x.isConsistent(), true);
        x.passDays(30);
        s.same("the dew is gone", x.isConsistent(), true);
        x.undo();
        s.same("the dew is back", x.isConsistent(), true);
        x.restore();
        s.same("restored", x.isConsistent(), true);
    }

    private static final String CHECK = "Checks the state: for all kinds, both ways to compute the flies agree; both "
        + "ways to compute the value agree; for all vaults, both ways to predict the days agree; and mintedTotal is "
        + "redeemedTotal plus evaporatedTotal plus the dew of all vaults.";

    /** No calls lead to accounts that are wrong, so they are falsified behind the object's back. */
    private static void promise43Falsified() {
        Sentence s = Sentence.ofPromise(43, CHECK);
        for (String account : new String[] {"fliesIn", "fliesOut"}) {
            for (int kind = 0; kind < 3; kind++) {
                FlyTreasury x = two();
                add(1, (int[]) fieldOf(ledgerOf(x), account), kind);
                s.same("one too many in " + account + " of kind " + kind, x.isConsistent(), false);
            }
        }
        for (String account : new String[] {"dropsMinted", "dropsRedeemed", "dropsEvaporated"}) {
            FlyTreasury x = two();
            addOne(ledgerOf(x), account);
            s.same("one too many in " + account, x.isConsistent(), false);
        }
    }

    /** Only a vault with fewer flies than none needs more days to be sound than its dew can be counted down. */
    private static void promise43FalsePrediction() {
        Sentence s = Sentence.ofPromise(43, CHECK);
        for (int vault = 0; vault < 5; vault++) {
            FlyTreasury x = Treasuries.withVaults(5);
            Object[] vaults = (Object[]) fieldOf(ledgerOf(x), "vaults");
            add(-99, (int[]) fieldOf(vaults[vault], "held"), 2);
            add(-99, (int[]) fieldOf(ledgerOf(x), "fliesIn"), 2);
            s.same("flies of vault " + vault, x.totalFlies('h'), x.totalFliesByAccounts('h'));
            s.same("value of vault " + vault, x.totalValue(), x.totalValueByKinds());
            s.same("days of vault " + vault, x.daysUntilSound(vault) != x.daysUntilSoundByCounting(vault), true);
            s.same("fewer flies than none in vault " + vault, x.isConsistent(), false);
        }
    }

    private static void add(int number, int[] row, int index) {
        row[index] += number;
    }

    private static Object ledgerOf(FlyTreasury x) {
        return fieldOf(x, "ledger");
    }

    private static Object fieldOf(Object holder, String name) {
        try {
            Field field = holder.getClass().getDeclaredField(name);
            field.setAccessible(true);
            return field.get(holder);
        } catch (ReflectiveOperationException e) {
            throw new IllegalStateException(e);
        }
    }

    private static void addOne(Object holder, String name) {
        try {
            Field field = holder.getClass().getDeclaredField(name);
            field.setAccessible(true);
            field.setInt(holder, field.getInt(holder) + 1);
        } catch (ReflectiveOperationException e) {
            throw new IllegalStateException(e);
        }
    }

    private static void promise44NoVault() {
        ChangesBounds.noSuchVault(44, (x, vault) -> x.renderVault(vault));
    }

    private static final String VAULT_TEXT = "Replaces the output text by a description of a vault: \"g\", \"m\" and "
        + "\"h\", each followed by the number of flies, \"+\" and the crumbs, \"~\" and the dew, \"w\" and the wings, "
        + "and, if it is frozen, \"*\" and the number of days; as in \"g5m0h12+3~20w0*5\".";

    private static void promise44Frozen() {
        Sentence s = Sentence.ofPromise(44, VAULT_TEXT);
        FlyTreasury example = example();
        s.same("the example", Treasuries.output(example, example.renderVault(0)), "g5m0h12+3~20w0*5");
        example.passDays(4);
        s.same("for one more day", Treasuries.output(example, example.renderVault(0)), "g5m0h12+3~16w0*1");
        example.passDays(1);
        s.same("not frozen", Treasuries.output(example, example.renderVault(0)), "g5m0h12+3~15w0");
    }

    private static FlyTreasury example() {
        FlyTreasury x = Treasuries.withFlies('m', 1);
        x.setRate('m', 3);
        x.exchange(0, 'm', 'h', 1);
        x.deposit(0, 'g', 5);
        x.deposit(0, 'h', 12);
        x.mint(0, 20);
        x.setRate('h', 1);
        x.setStickiness(0, 9);
        x.audit(0);
        return x;
    }

    private static void promise44Length() {
        Sentence s = Sentence.ofPromise(44, "Returns the length of the output text.");
        FlyTreasury x = Treasuries.withFlies('g', 0);
        s.same("the shortest", x.renderVault(0), 12);
        s.same("the shortest text", Treasuries.output(x, 12), "g0m0h0+0~0w1");
        x.renderVault(0);
        s.same("it is replaced, not continued", Treasuries.output(x, 12), "g0m0h0+0~0w1");
        s.fails("it ends there", INDEX, () -> x.outputAt(12));
    }

    private static void promise45() {
        Sentence s = Sentence.ofPromise(45, "Replaces the output text by the rates, separated by commas, as in "
            + "\"g2,m6,h20\".");
        FlyTreasury x = new FlyTreasury();
        s.same("at first", Treasuries.output(x, x.renderRates()), "g2,m6,h20");
        x.setRate('h', 1);
        s.same("the shortest", Treasuries.output(x, x.renderRates()), "g2,m6,h1");
        s.fails("the longer text is gone", INDEX, () -> x.outputAt(8));
        for (char kind : new char[] {'g', 'm', 'h'}) {
            x.setRate(kind, 50);
        }
        s.same("the longest", Treasuries.output(x, x.renderRates()), "g50,m50,h50");
        s.fails("it ends there", INDEX, () -> x.outputAt(11));
    }

    private static void promise46Empty() {
        Sentence s = Sentence.ofPromise(46, "Returns a character of the output text, which is empty initially.");
        s.fails("a new object", INDEX, () -> new FlyTreasury().outputAt(0));
        FlyTreasury x = new FlyTreasury();
        x.addVault(0);
        x.passDays(1);
        s.fails("nothing was rendered", INDEX, () -> x.outputAt(0));
    }

    private static void promise46NoIndex() {
        Sentence s = Sentence.ofPromise(46, "Throws `IndexOutOfBoundsException` if there is no such index");
        for (int wrong : Treasuries.outside(0, 8)) {
            s.refuses("index " + wrong + " of 9", Treasuries::lived, INDEX, x -> x.outputAt(wrong));
        }
        for (int wrong : Treasuries.outside(0, -1)) {
            s.refuses("index " + wrong + " of 0", FlyTreasury::new, INDEX, x -> x.outputAt(wrong));
        }
        s.answers("the first of 9", Treasuries::lived, x -> x.outputAt(0), 'g');
        s.answers("the last of 9", Treasuries::lived, x -> x.outputAt(8), '0');
    }
}
