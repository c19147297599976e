/** Treasuries in the states with which the tests of boundary cases begin, and what those tests have in common. */
final class Treasuries {
    private Treasuries() {
    }

    /**
     * No vaults, but everything else has been used: there is an error position (2), a failed command (1), an output
     * text, a snapshot that differs from the present state, changes to undo, and "da" in the script buffer.
     */
    static FlyTreasury lived() {
        FlyTreasury x = new FlyTreasury();
        x.setRate('g', 9);
        x.save();
        x.passDays(3);
        x.setRate('g', 2);
        run(x, "dax");
        run(x, "day;audit 0");
        x.renderRates();
        type(x, "da");
        return x;
    }

    /** Each vault has 4 gnats, 3 midges and 2 hawkmoths, which are 66 legs, and 10 drops; its stickiness is 1. */
    static FlyTreasury withVaults(int count) {
        FlyTreasury x = lived();
        for (int vault = 0; vault < count; vault++) {
            x.addVault(1);
            x.deposit(vault, 'g', 4);
            x.deposit(vault, 'm', 3);
            x.deposit(vault, 'h', 2);
            x.mint(vault, 10);
        }
        return x;
    }

    /** One vault of stickiness 0 with these flies alone. */
    static FlyTreasury withFlies(char kind, int flies) {
        FlyTreasury x = lived();
        x.addVault(0);
        put(x, 0, kind, flies);
        return x;
    }

    /** One vault that has lost its only wing and is frozen for 5 days: 10 hawkmoths of 1 leg each, and 60 drops. */
    static FlyTreasury frozen() {
        FlyTreasury x = withFlies('h', 10);
        x.mint(0, 60);
        x.setRate('h', 1);
        x.audit(0);
        return x;
    }

    /** The same vault so many days later: after 5 days it is not frozen any more. */
    static FlyTreasury frozenSince(int days) {
        FlyTreasury x = frozen();
        if (days > 0) {
            x.passDays(days);
        }
        return x;
    }

    /**
     * Three vaults in which hardly two numbers are the same, with rates of 3, 7 and 19 legs on day 2. Vault 0 is not
     * sound and frozen for 3 more days:
     *
     *   vault  gnats  midges  hawkmoths  crumbs  dew  wings  stickiness  value  reserve
     *     0      0      20        0         0     88    0        9        140     126
     *     1      5       4       14         9     35    2        2        318      63
     *     2     11       6        6         2     47    3        7        191     133
     */
    static FlyTreasury varied() {
        FlyTreasury x = new FlyTreasury();
        x.addVault(9);
        x.setRate('m', 50);
        x.deposit(0, 'm', 20);
        x.mint(0, 90);
        x.setRate('g', 3);
        x.setRate('m', 7);
        x.setRate('h', 19);
        x.audit(0);
        x.addVault(2);
        x.deposit(1, 'g', 5);
        x.deposit(1, 'm', 8);
        x.deposit(1, 'h', 13);
        x.exchange(1, 'm', 'h', 4);
        x.mint(1, 40);
        x.redeem(1, 3);
        x.audit(1);
        x.addVault(7);
        x.deposit(2, 'g', 21);
        x.deposit(2, 'm', 2);
        x.deposit(2, 'h', 6);
        x.exchange(2, 'g', 'm', 10);
        x.mint(2, 50);
        x.redeem(2, 1);
        x.audit(2);
        x.audit(2);
        x.passDays(2);
        return x;
    }

    static void put(FlyTreasury x, int vault, char kind, int flies) {
        for (int left = flies; left > 0; left -= 30) {
            x.deposit(vault, kind, Math.min(left, 30));
        }
    }

    static void issue(FlyTreasury x, int vault, int drops) {
        for (int left = drops; left > 0; left -= 99) {
            x.mint(vault, Math.min(left, 99));
        }
    }

    static void type(FlyTreasury x, String text) {
        for (int i = 0; i < text.length(); i++) {
            x.type(text.charAt(i));
        }
    }

    static Object run(FlyTreasury x, String text) {
        type(x, text);
        return Check.outcome(() -> x.runScript());
    }

    static String output(FlyTreasury x, int length) {
        StringBuilder text = new StringBuilder();
        for (int i = 0; i < length; i++) {
            text.append(x.outputAt(i));
        }
        return text.toString();
    }

    /** Numbers that are not between these two, the nearest ones and some that a short type would take for one. */
    static int[] outside(int least, int most) {
        return new int[] {least - 1, most + 1, Integer.MIN_VALUE, Integer.MAX_VALUE, 256 + most, 65536 + most,
            -most - 2};
    }

    /** The neighbours of the kinds, other signs, and 'g' with a bit too many. */
    static char[] noKinds() {
        return new char[] {'f', 'i', 'l', 'n', 'G', 'M', 'H', ' ', '0', (char) 0, (char) ('g' + 256), (char) 65535};
    }
}
