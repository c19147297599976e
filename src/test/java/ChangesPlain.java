/** The sentences of promises 2 to 11 that name no boundary case: what a change answers, what it changes, what not. */
final class ChangesPlain {
    private ChangesPlain() {
    }

    static void run() {
        Sentence.testEach(ChangesPlain::theFixture, ChangesPlain::promise2, ChangesPlain::promise3,
            ChangesPlain::promise4, ChangesPlain::promise5, ChangesPlain::promise6, ChangesPlain::promise7,
            ChangesPlain::promise8, ChangesPlain::promise8NotSound, ChangesPlain::promise9, ChangesPlain::promise10,
            ChangesPlain::promise11);
    }

    /** The call on Treasuries.varied() must answer this, and change these numbers and no others. */
    private static void changes(int promise, String text, Sentence.Call call, Object answer, String changes) {
        changes(Sentence.ofPromise(promise, text), Treasuries.varied(), call, answer, changes);
    }

    private static void changes(Sentence s, FlyTreasury x, Sentence.Call call, Object answer, String changes) {
        Numbers before = new Numbers(x);
        s.same("the answer", Check.outcome(() -> call.on(x)), answer);
        s.same("what changes", before.changesTo(new Numbers(x)), changes);
        s.same("the accounts", x.isConsistent(), true);
        x.undo();
        s.same("what is left of it after undo", before.changesTo(new Numbers(x)), "[]");
    }

    /** Shows what the other tests here rely on: that the table above Treasuries.varied() is right. */
    private static void theFixture() {
        FlyTreasury x = Treasuries.varied();
        String[] due = {"g0m20h0+0~88w0*3", "g5m4h14+9~35w2", "g11m6h6+2~47w3"};
        for (int vault = 0; vault < 3; vault++) {
            Check.same("varied " + vault, Treasuries.output(x, x.renderVault(vault)), due[vault]);
        }
    }

    private static void promise2() {
        changes(2, "Adds a vault. - `stickiness`: the stickiness", x -> x.addVault(4), 3,
            "[vaults 3 to 4, vault 3 g none to 0, vault 3 m none to 0, vault 3 h none to 0, vault 3 crumbs none to 0, "
            + "vault 3 dew none to 0, vault 3 wings none to 1, vault 3 stickiness none to 4, "
            + "vault 3 frozen none to 0]");
    }

    private static void promise3() {
        String arguments = "- `vault`: the index of the vault - `kind`: the kind - `flies`: the number of flies";
        changes(3, arguments, x -> x.deposit(1, 'g', 7), 12, "[vault 1 g 5 to 12]");
        changes(3, arguments, x -> x.deposit(2, 'm', 1), 7, "[vault 2 m 6 to 7]");
        changes(3, arguments, x -> x.deposit(1, 'h', 30), 44, "[vault 1 h 14 to 44]");
        String answer = "Returns the number of flies of this kind in the vault after the call.";
        changes(3, answer, x -> x.deposit(0, 'm', 2), 22, "[vault 0 m 20 to 22]");
    }

    private static void promise4() {
        changes(4, "Takes flies out of a vault.", x -> x.withdraw(1, 'g', 4), 1, "[vault 1 g 5 to 1]");
        String arguments = "- `vault`: the index of the vault - `kind`: the kind - `flies`: the number of flies";
        changes(4, arguments, x -> x.withdraw(2, 'g', 9), 2, "[vault 2 g 11 to 2]");
        changes(4, arguments, x -> x.withdraw(1, 'm', 2), 2, "[vault 1 m 4 to 2]");
        changes(4, arguments, x -> x.withdraw(2, 'h', 1), 5, "[vault 2 h 6 to 5]");
        String answer = "Returns the number of flies of this kind in the vault after the call.";
        changes(4, answer, x -> x.withdraw(1, 'h', 3), 11, "[vault 1 h 14 to 11]");
    }

    private static void promise5() {
        changes(5, "Exchanges flies of a vault.", x -> x.exchange(1, 'm', 'g', 3), 10,
            "[vault 1 g 5 to 15, vault 1 m 4 to 1, vault 1 crumbs 9 to 0]");
        String arguments = "- `vault`: the index of the vault - `from`: the kind that is given - `to`: the kind that "
            + "is received - `flies`: the number of flies that are given";
        changes(5, arguments, x -> x.exchange(2, 'm', 'g', 5), 12,
            "[vault 2 g 11 to 23, vault 2 m 6 to 1, vault 2 crumbs 2 to 1]");
        changes(5, arguments, x -> x.exchange(2, 'g', 'm', 5), 2,
            "[vault 2 g 11 to 6, vault 2 m 6 to 8, vault 2 crumbs 2 to 3]");
        changes(5, arguments, x -> x.exchange(2, 'g', 'h', 6), 1,
            "[vault 2 g 11 to 5, vault 2 h 6 to 7, vault 2 crumbs 2 to 1]");
        changes(5, arguments, x -> x.exchange(1, 'h', 'g', 2), 15,
            "[vault 1 g 5 to 20, vault 1 h 14 to 12, vault 1 crumbs 9 to 2]");
        changes(5, "Returns the number of flies that are received.", x -> x.exchange(1, 'h', 'm', 4), 12,
            "[vault 1 m 4 to 16, vault 1 h 14 to 10, vault 1 crumbs 9 to 1]");
    }

    private static void promise6() {
        changes(6, "Lets a vault issue dew.", x -> x.mint(1, 60), 95, "[vault 1 dew 35 to 95, minted 180 to 240]");
        changes(6, "- `vault`: the index of the vault - `drops`: the number of drops", x -> x.mint(2, 1), 48,
            "[vault 2 dew 47 to 48, minted 180 to 181]");
        changes(6, "Returns the dew of the vault after the call.", x -> x.mint(2, 11), 58,
            "[vault 2 dew 47 to 58, minted 180 to 191]");
    }

    private static void promise7() {
        changes(7, "- `vault`: the index of the vault - `drops`: the number of drops", x -> x.redeem(2, 1), 46,
            "[vault 2 dew 47 to 46, redeemed 4 to 5]");
        changes(7, "Returns the dew of the vault after the call.", x -> x.redeem(1, 30), 5,
            "[vault 1 dew 35 to 5, redeemed 4 to 34]");
    }

    private static void promise8() {
        changes(8, "Audits a vault.", x -> x.audit(1), true,
            "[vault 1 wings 2 to 3, audits 4 to 5, sound audits 3 to 4]");
        changes(8, "- `vault`: the index of the vault", x -> x.audit(2), true, "[audits 4 to 5, sound audits 3 to 4]");
    }

    private static void promise8NotSound() {
        Sentence s = Sentence.ofPromise(8, "Audits a vault.");
        FlyTreasury x = Treasuries.varied();
        x.setStickiness(2, 9);
        changes(s, x, y -> y.audit(2), false, "[vault 2 wings 3 to 2, audits 4 to 5]");
        x.passDays(3);
        changes(s, x, y -> y.audit(0), false, "[vault 0 frozen 0 to 5, audits 4 to 5]");
        FlyTreasury z = Treasuries.varied();
        z.addVault(0);
        z.setRate('h', 50);
        z.deposit(3, 'h', 2);
        z.mint(3, 99);
        z.setRate('h', 49);
        changes(s, z, y -> y.audit(3), false, "[vault 3 wings 1 to 0, vault 3 frozen 0 to 5, audits 4 to 5]");
    }

    private static void promise9() {
        changes(9, "Sets the rate of a kind.", x -> x.setRate('h', 20), 19, "[rate h 19 to 20]");
        changes(9, "- `kind`: the kind - `legs`: the rate", x -> x.setRate('g', 50), 3, "[rate g 3 to 50]");
        changes(9, "Returns the previous rate.", x -> x.setRate('m', 1), 7, "[rate m 7 to 1]");
    }

    private static void promise10() {
        changes(10, "Sets the stickiness of a vault.", x -> x.setStickiness(2, 4), 7, "[vault 2 stickiness 7 to 4]");
        changes(10, "- `vault`: the index of the vault - `stickiness`: the stickiness", x -> x.setStickiness(1, 0), 2,
            "[vault 1 stickiness 2 to 0]");
        changes(10, "Returns the previous stickiness.", x -> x.setStickiness(0, 1), 9, "[vault 0 stickiness 9 to 1]");
    }

    private static void promise11() {
        changes(11, "Lets days pass.", x -> x.passDays(1), 3, "[vault 0 dew 88 to 87, vault 0 frozen 3 to 2, "
            + "vault 1 dew 35 to 34, vault 2 dew 47 to 46, day 2 to 3, evaporated 6 to 9]");
        changes(11, "- `days`: the number of days", x -> x.passDays(4), 12, "[vault 0 dew 88 to 84, "
            + "vault 0 frozen 3 to 0, vault 1 dew 35 to 31, vault 2 dew 47 to 43, day 2 to 6, evaporated 6 to 18]");
    }
}
