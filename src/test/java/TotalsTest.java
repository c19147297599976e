/** Promises 35 to 46: the day, the totals, the means, the check of the state and the output text. */
public final class TotalsTest {
    private static final Class<IndexOutOfBoundsException> INDEX = IndexOutOfBoundsException.class;

    private TotalsTest() {
    }

    public static void main(String[] args) {
        promise35Day();
        promises36To38Dew();
        promises39And40Audits();
        promise41MeanValue();
        promise42SoundShare();
        promise43IsConsistent();
        promise44RenderVault();
        promise45RenderRates();
        promise46OutputAt();
        Check.finish();
    }

    private static void promise35Day() {
        FlyTreasury x = new FlyTreasury();
        Check.same("35 first", x.day(), 0);
        x.passDays(1);
        x.passDays(30);
        Check.same("35 later", x.day(), 31);
        x.undo();
        Check.same("35 undone", x.day(), 1);
    }

    private static void promises36To38Dew() {
        FlyTreasury x = new FlyTreasury();
        x.addVault(0);
        x.addVault(0);
        x.deposit(0, 'h', 5);
        x.deposit(1, 'h', 5);
        x.mint(0, 40);
        x.mint(1, 2);
        x.mint(0, 1);
        x.redeem(0, 6);
        x.redeem(0, 4);
        x.passDays(3);
        Check.same("36 minted", x.mintedTotal(), 43);
        Check.same("37 redeemed", x.redeemedTotal(), 10);
        Check.same("38 evaporated", x.evaporatedTotal(), 5);
        x.undo();
        Check.same("38 undone", x.evaporatedTotal(), 0);
        x.undo();
        Check.same("37 undone", x.redeemedTotal(), 6);
        x.undo();
        x.undo();
        Check.same("36 undone", x.mintedTotal(), 42);
    }

    private static void promises39And40Audits() {
        FlyTreasury x = new FlyTreasury();
        x.addVault(0);
        x.addVault(0);
        x.deposit(1, 'h', 5);
        x.mint(1, 50);
        x.setRate('h', 1);
        x.audit(0);
        x.audit(1);
        Check.outcome(() -> x.audit(1));
        x.audit(0);
        Check.same("39 audits", x.auditTotal(), 3);
        Check.same("40 sound audits", x.soundAuditTotal(), 2);
        x.undo();
        Check.same("39 undone", x.auditTotal(), 2);
        Check.same("40 undone", x.soundAuditTotal(), 1);
    }

    private static void promise41MeanValue() {
        FlyTreasury x = new FlyTreasury();
        Check.fails("41 no vaults", ArithmeticException.class, () -> x.meanValue());
        x.addVault(0);
        Check.same("41 empty", x.meanValue(), 0.0);
        x.addVault(0);
        x.addVault(0);
        x.deposit(1, 'h', 5);
        Check.same("41 a third", x.meanValue(), 100.0 / 3.0);
    }

    private static void promise42SoundShare() {
        FlyTreasury x = new FlyTreasury();
        Check.fails("42 no audit", ArithmeticException.class, () -> x.soundShare());
        x.addVault(0);
        x.addVault(0);
        x.audit(0);
        Check.same("42 all", x.soundShare(), 1.0f);
        x.audit(0);
        x.deposit(1, 'h', 5);
        x.mint(1, 50);
        x.setRate('h', 1);
        x.audit(1);
        Check.same("42 two thirds", x.soundShare(), 2.0f / 3.0f);
        x.passDays(5);
        x.audit(1);
        Check.same("42 half", x.soundShare(), 0.5f);
    }

    private static void promise43IsConsistent() {
        FlyTreasury x = new FlyTreasury();
        Check.same("43 new", x.isConsistent(), true);
        x.addVault(3);
        x.deposit(0, 'h', 20);
        x.exchange(0, 'h', 'm', 4);
        x.mint(0, 70);
        x.redeem(0, 8);
        x.withdraw(0, 'm', 2);
        Check.same("43 sound", x.isConsistent(), true);
        x.setRate('h', 1);
        x.setRate('m', 1);
        x.audit(0);
        x.passDays(2);
        Check.same("43 unsound", x.isConsistent(), true);
        x.undo();
        Check.same("43 undone", x.isConsistent(), true);
    }

    private static String output(FlyTreasury x, int length) {
        StringBuilder text = new StringBuilder();
        for (int i = 0; i < length; i++) {
            text.append(x.outputAt(i));
        }
        Check.fails("output ends", INDEX, () -> x.outputAt(length));
        return text.toString();
    }

    private static void promise44RenderVault() {
        FlyTreasury x = new FlyTreasury();
        Check.fails("44 no vault", INDEX, () -> x.renderVault(0));
        x.addVault(0);
        x.addVault(0);
        Check.same("44 empty", output(x, x.renderVault(1)), "g0m0h0+0~0w1");
        x.deposit(0, 'g', 5);
        x.deposit(0, 'm', 3);
        x.deposit(0, 'h', 11);
        x.exchange(0, 'm', 'h', 3);
        x.deposit(0, 'm', 10);
        Check.same("44 crumbs", output(x, x.renderVault(0)), "g5m10h11+18~0w1");
        x.mint(0, 99);
        x.setRate('h', 1);
        x.setRate('m', 1);
        x.audit(0);
        Check.same("44 frozen", output(x, x.renderVault(0)), "g5m10h11+18~99w0*5");
        x.passDays(4);
        Check.same("44 last day", output(x, x.renderVault(0)), "g5m10h11+18~95w0*1");
        x.passDays(1);
        Check.same("44 thawed", output(x, x.renderVault(0)), "g5m10h11+18~94w0");
        Check.fails("44 -1", INDEX, () -> x.renderVault(-1));
        Check.fails("44 2", INDEX, () -> x.renderVault(2));
        Check.same("44 failure keeps the text", x.outputAt(4), '0');
        x.undo();
        Check.same("44 undo keeps the text", output(x, 16), "g5m10h11+18~94w0");
    }

    private static void promise45RenderRates() {
        FlyTreasury x = new FlyTreasury();
        Check.same("45 length", x.renderRates(), 9);
        Check.same("45 new", output(x, 9), "g2,m6,h20");
        x.setRate('g', 50);
        x.setRate('h', 1);
        Check.same("45 text is not renewed", output(x, 9), "g2,m6,h20");
        Check.same("45 later", output(x, x.renderRates()), "g50,m6,h1");
    }

    private static void promise46OutputAt() {
        FlyTreasury x = new FlyTreasury();
        Check.fails("46 empty", INDEX, () -> x.outputAt(0));
        x.renderRates();
        for (int index : new int[] {-1, 9, Integer.MIN_VALUE, Integer.MAX_VALUE}) {
            Check.fails("46 index " + index, INDEX, () -> x.outputAt(index));
        }
        Check.same("46 first", x.outputAt(0), 'g');
        Check.same("46 last", x.outputAt(8), '0');
    }
}
