import java.util.NoSuchElementException;

/** The boundary cases of "Changes" that are about undo and the snapshot, and of promises 51 to 53. */
final class UndoBounds {
    private static final Class<IllegalStateException> STATE = IllegalStateException.class;
    private static final Class<NoSuchElementException> NOTHING = NoSuchElementException.class;

    private UndoBounds() {
    }

    static void run() {
        Sentence.testEach(UndoBounds::callsThatAreChanges, UndoBounds::changesWithTheSameState,
            UndoBounds::callsThatAreNoChanges, UndoBounds::refusedCallsAreNoChanges, UndoBounds::latest8,
            UndoBounds::latest8InAnyOrder, UndoBounds::undoCoversEverything, UndoBounds::undoDoesNotCover,
            UndoBounds::snapshotDoesNotCover, UndoBounds::promise51Undoes, UndoBounds::promise51Count,
            UndoBounds::promise51Nothing, UndoBounds::promise52Replaces, UndoBounds::promise52Count,
            UndoBounds::promise53Kept, UndoBounds::promise53NothingToUndo, UndoBounds::promise53Count,
            UndoBounds::promise53NoSnapshot);
    }

    /** One vault with 30 flies of each kind, 30 drops and no stickiness; nothing can be undone. */
    private static FlyTreasury rich() {
        FlyTreasury x = new FlyTreasury();
        x.addVault(0);
        for (char kind : new char[] {'g', 'm', 'h'}) {
            x.deposit(0, kind, 30);
        }
        x.mint(0, 30);
        x.save();
        x.restore();
        return x;
    }

    private static Object undoOf(FlyTreasury x) {
        return Check.outcome(() -> x.undo());
    }

    private static final String CHANGE = "A change is a call of addVault, deposit, withdraw, exchange, mint, redeem, "
        + "audit, setRate, setStickiness, passDays or runScript that returns normally, even if the state is the same "
        + "afterwards.";

    private static Sentence.Call[] changes() {
        return new Sentence.Call[] {x -> x.addVault(3), x -> x.deposit(0, 'g', 1), x -> x.withdraw(0, 'm', 2),
            x -> x.exchange(0, 'm', 'h', 2), x -> x.mint(0, 4), x -> x.redeem(0, 5), x -> x.audit(0),
            x -> x.setRate('g', 7), x -> x.setStickiness(0, 9), x -> x.passDays(30),
            x -> Treasuries.run(x, "audit 0;day 2;rate h1;swap 0 hg1;vault 1")};
    }

    private static void callsThatAreChanges() {
        Sentence s = Sentence.ofSection("Changes", CHANGE);
        Sentence.Call[] changes = changes();
        for (int i = 0; i < changes.length; i++) {
            FlyTreasury x = rich();
            String before = Trace.look(x);
            changes[i].on(x);
            s.same("call " + i + " did something", !Trace.look(x).equals(before), true);
            s.same("call " + i + " can be undone", undoOf(x), 0);
            s.same("call " + i + " is undone", Trace.look(x), before);
        }
    }

    private static void changesWithTheSameState() {
        Sentence s = Sentence.ofSection("Changes", CHANGE);
        Sentence.Call[] same = {x -> x.setRate('g', 2), x -> x.setStickiness(0, 0), x -> Treasuries.run(x, "rate g2"),
            x -> Treasuries.run(x, "put 0 g1;take 0 g1;stick 0 0")};
        for (int i = 0; i < same.length; i++) {
            FlyTreasury x = rich();
            String before = Trace.look(x);
            same[i].on(x);
            s.same("call " + i + " changes nothing that is seen", Trace.look(x), before);
            s.same("call " + i + " can be undone", undoOf(x), 0);
            s.same("call " + i + " was the only one", undoOf(x), STATE.getName());
        }
        FlyTreasury x = new FlyTreasury();
        x.setRate('h', 9);
        for (int i = 0; i < 8; i++) {
            x.setRate('h', 9);
        }
        for (int left = 7; left >= 0; left--) {
            s.same("left", undoOf(x), left);
        }
        s.same("8 calls without effect have pushed out the first", x.rate('h'), 9);
    }

    private static void callsThatAreNoChanges() {
        Sentence s = Sentence.ofSection("Changes", CHANGE);
        FlyTreasury x = rich();
        Trace.look(x);
        x.renderVault(0);
        x.renderRates();
        x.save();
        x.type('d');
        s.same("questions, texts, save and type", undoOf(x), STATE.getName());
        x.passDays(1);
        x.undo();
        s.same("undo", undoOf(x), STATE.getName());
        x.restore();
        s.same("restore", undoOf(x), STATE.getName());
    }

    private static void refusedCallsAreNoChanges() {
        Sentence s = Sentence.ofSection("Changes", CHANGE);
        Sentence.Call[] refused = {x -> x.addVault(10), x -> x.deposit(0, 'x', 1), x -> x.withdraw(0, 'm', 31),
            x -> x.exchange(0, 'm', 'm', 2), x -> x.mint(0, 0), x -> x.redeem(0, 31), x -> x.audit(1),
            x -> x.setRate('g', 0), x -> x.setStickiness(0, 10), x -> x.passDays(31), x -> x.runScript(),
            x -> Treasuries.run(x, "day 0")};
        FlyTreasury x = rich();
        for (int i = 0; i < refused.length; i++) {
            Sentence.Call call = refused[i];
            Check.outcome(() -> call.on(x));
            s.same("after refused call " + i, undoOf(x), STATE.getName());
        }
    }

    private static final String LATEST = "The latest 8 changes can be undone, the latest one first.";

    private static void latest8() {
        Sentence s = Sentence.ofSection("Changes", LATEST);
        for (int changes : new int[] {0, 1, 2, 7, 8, 9, 10, 15, 16, 17, 24, 100}) {
            FlyTreasury x = new FlyTreasury();
            for (int change = 0; change < changes; change++) {
                x.passDays(1);
            }
            int possible = Math.min(changes, 8);
            for (int undone = 1; undone <= possible; undone++) {
                s.same("undo " + undone + " of " + changes, undoOf(x), possible - undone);
                s.same("day after it", x.day(), changes - undone);
            }
            s.same("one undo more of " + changes, undoOf(x), STATE.getName());
            s.same("day at the end", x.day(), changes - possible);
        }
    }

    /** A plain list of the days, of which 9 are kept, says what is due. */
    private static void latest8InAnyOrder() {
        Sentence s = Sentence.ofSection("Changes", LATEST);
        int[] steps = {3, -1, 9, -4, 2, -8, 5, -2, 30, -7, 6, -9, 8, -8, 11, -3, 1, -1, 20, -9};
        FlyTreasury x = new FlyTreasury();
        int day = 0;
        int left = 0;
        for (int step : steps) {
            for (int i = 0; i < step; i++) {
                x.passDays(1);
                day++;
                left = Math.min(left + 1, 8);
            }
            for (int i = 0; i < -step; i++) {
                s.same("undo", undoOf(x), left == 0 ? STATE.getName() : (Object) (left - 1));
                day -= left == 0 ? 0 : 1;
                left -= left == 0 ? 0 : 1;
                s.same("day", x.day(), day);
            }
        }
    }

    private static final String COVER = "Undo and the snapshot cover everything except the script buffer, the error "
        + "position, the index of the failed command, the output text and the snapshot itself.";

    private static void undoCoversEverything() {
        Sentence s = Sentence.ofSection("Changes", COVER);
        Sentence.Call[] changes = changes();
        FlyTreasury x = rich();
        String before = Trace.look(x);
        for (int i = 3; i < changes.length; i++) {
            changes[i].on(x);
        }
        x.save();
        String saved = Trace.look(x);
        for (int i = 3; i < changes.length; i++) {
            x.undo();
        }
        s.same("8 changes are undone", Trace.look(x), before);
        x.restore();
        s.same("8 changes are restored", Trace.look(x), saved);
    }

    private static void undoDoesNotCover() {
        Sentence s = Sentence.ofSection("Changes", COVER);
        FlyTreasury x = rich();
        x.passDays(7);
        x.save();
        x.passDays(1);
        Treasuries.run(x, "dax");
        Treasuries.run(x, "day;day 0");
        x.renderRates();
        x.passDays(1);
        Treasuries.type(x, "da");
        x.undo();
        x.undo();
        s.same("script buffer", x.type('y'), 3);
        s.same("error position", x.errorPosition(), 2);
        s.same("failed command", x.failedCommand(), 1);
        s.same("output text", Treasuries.output(x, 9), "g2,m6,h20");
        s.same("day", x.day(), 7);
        x.undo();
        s.same("day before the snapshot", x.day(), 0);
        s.same("snapshot", x.restore(), 1);
        s.same("its day", x.day(), 7);
        s.same("the script", x.runScript(), 1);
    }

    private static void snapshotDoesNotCover() {
        Sentence s = Sentence.ofSection("Changes", COVER);
        FlyTreasury x = new FlyTreasury();
        x.save();
        Treasuries.run(x, "dax");
        Treasuries.run(x, "day;day 0");
        x.renderRates();
        Treasuries.type(x, "da");
        x.restore();
        s.same("script buffer", x.type('y'), 3);
        s.same("error position", x.errorPosition(), 2);
        s.same("failed command", x.failedCommand(), 1);
        s.same("output text", Treasuries.output(x, 9), "g2,m6,h20");
        s.same("the snapshot itself", x.restore(), 0);
        s.same("the script", x.runScript(), 1);
        FlyTreasury y = new FlyTreasury();
        Treasuries.run(y, "da");
        y.save();
        s.fails("no failed command comes with it", NOTHING, () -> y.failedCommand());
    }

    private static void promise51Undoes() {
        Sentence s = Sentence.ofPromise(51, "Undoes the latest change that has not been undone.");
        FlyTreasury x = new FlyTreasury();
        x.passDays(1);
        x.passDays(10);
        x.undo();
        s.same("the latest", x.day(), 1);
        x.passDays(20);
        x.undo();
        s.same("the one after the undo", x.day(), 1);
        x.undo();
        s.same("the first, since the second has been undone", x.day(), 0);
    }

    private static void promise51Count() {
        Sentence s = Sentence.ofPromise(51, "Returns the number of changes that can still be undone.");
        FlyTreasury x = new FlyTreasury();
        x.passDays(1);
        s.same("none left", x.undo(), 0);
        for (int change = 0; change < 8; change++) {
            x.passDays(1);
        }
        s.same("7 of 8", x.undo(), 7);
        x.passDays(1);
        x.passDays(1);
        s.same("7 of 9", x.undo(), 7);
        s.same("6", x.undo(), 6);
        x.passDays(1);
        s.same("6 again", x.undo(), 6);
    }

    private static void promise51Nothing() {
        Sentence s = Sentence.ofPromise(51, "Throws `IllegalStateException` if there is nothing to undo");
        s.refuses("a new object", FlyTreasury::new, STATE, x -> x.undo());
        s.refuses("restored", UndoBounds::rich, STATE, x -> x.undo());
        s.refuses("the only change was undone", UndoBounds::undone, STATE, x -> x.undo());
        s.refuses("8 of 9 were undone", () -> undone(9), STATE, x -> x.undo());
        s.refuses("8 of 8 were undone", () -> undone(8), STATE, x -> x.undo());
        FlyTreasury x = undone();
        undoOf(x);
        undoOf(x);
        x.passDays(1);
        s.same("refused undos do not count", x.undo(), 0);
    }

    private static FlyTreasury undone() {
        return undone(1);
    }

    private static FlyTreasury undone(int changes) {
        FlyTreasury x = new FlyTreasury();
        for (int change = 0; change < changes; change++) {
            x.passDays(1);
        }
        for (int change = 0; change < changes && change < 8; change++) {
            x.undo();
        }
        return x;
    }

    private static void promise52Replaces() {
        Sentence s = Sentence.ofPromise(52, "Takes a snapshot, which replaces an earlier one.");
        FlyTreasury x = Treasuries.withVaults(5);
        x.save();
        x.passDays(30);
        x.save();
        x.passDays(30);
        x.restore();
        s.same("the later one", x.day(), 33);
        x.restore();
        s.same("the earlier one is gone", x.day(), 33);
        FlyTreasury y = new FlyTreasury();
        y.save();
        y.addVault(4);
        y.save();
        y.undo();
        y.save();
        y.addVault(4);
        s.same("without vaults again", y.restore(), 0);
    }

    private static void promise52Count() {
        Sentence s = Sentence.ofPromise(52, "Returns the number of vaults.");
        s.answers("none", FlyTreasury::new, x -> x.save(), 0);
        s.answers("5", () -> Treasuries.withVaults(5), x -> x.save(), 5);
        FlyTreasury x = new FlyTreasury();
        x.passDays(1);
        x.save();
        s.same("it keeps what can be undone", x.undo(), 0);
    }

    private static void promise53Kept() {
        Sentence s = Sentence.ofPromise(53, "Restores the snapshot, which is kept.");
        String saved = Trace.look(rich());
        for (Sentence.Call change : changes()) {
            FlyTreasury x = rich();
            for (int time = 0; time < 3; time++) {
                change.on(x);
                x.restore();
                s.same("restored after a change", Trace.look(x), saved);
            }
        }
    }

    private static void promise53NothingToUndo() {
        Sentence s = Sentence.ofPromise(53, "Afterwards there is nothing to undo.");
        for (int changes : new int[] {0, 1, 8, 9}) {
            FlyTreasury x = new FlyTreasury();
            x.save();
            for (int change = 0; change < changes; change++) {
                x.passDays(1);
            }
            x.restore();
            s.fails("after " + changes + " changes", STATE, () -> x.undo());
            x.passDays(5);
            s.same("a change after it", x.undo(), 0);
            s.same("its day", x.day(), 0);
        }
    }

    private static void promise53Count() {
        Sentence s = Sentence.ofPromise(53, "Returns the number of vaults.");
        FlyTreasury x = new FlyTreasury();
        x.save();
        x.addVault(0);
        s.same("none", x.restore(), 0);
        for (int vault = 0; vault < 5; vault++) {
            x.addVault(0);
        }
        x.save();
        s.same("5", x.restore(), 5);
    }

    private static void promise53NoSnapshot() {
        Sentence s = Sentence.ofPromise(53, "Throws `IllegalStateException` if there is no snapshot");
        s.refuses("a new object", FlyTreasury::new, STATE, x -> x.restore());
        s.refuses("a used object", () -> undone(9), STATE, x -> x.restore());
        FlyTreasury x = new FlyTreasury();
        x.passDays(1);
        x.save();
        x.undo();
        s.same("a snapshot is not undone", Check.outcome(() -> x.restore()), 0);
        s.same("its day", x.day(), 1);
    }
}
