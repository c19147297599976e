import java.util.NoSuchElementException;

/** A treasury in which flies are money. ../shared/DOC.md says what each method promises. */
public final class FlyTreasury {
    private static final String KINDS = "gmh";
    private static final int KIND_COUNT = 3;
    private static final int VAULT_LIMIT = 5;
    private static final int FLIES_LIMIT = 99;
    private static final int FLIES_PER_CALL = 30;
    private static final int DROPS_PER_CALL = 99;
    private static final int DAYS_PER_CALL = 30;
    private static final int RATE_LIMIT = 50;
    private static final int STICKINESS_LIMIT = 9;
    private static final int WINGS_LIMIT = 3;
    private static final int FROZEN_DAYS = 5;
    private static final int UNDO_LIMIT = 8;
    private static final int SCRIPT_LIMIT = 60;
    // The shortest command with its separator is "day;", and one more may be begun after the last separator.
    private static final int ORDER_LIMIT = SCRIPT_LIMIT / 4 + 1;
    private static final int NONE_YET = -1;
    private static final Command[] COMMANDS = Command.values();

    private final Ledger ledger = new Ledger();
    private final Ledger snapshot = new Ledger();
    private final Ledger beforeScript = new Ledger();
    private final History history = new History();
    private final Script script = new Script();
    private final StringBuilder output = new StringBuilder();
    private boolean hasSnapshot = false;
    private int latestErrorPosition = NONE_YET;
    private int latestFailedCommand = NONE_YET;

    public FlyTreasury() {
    }

    public int addVault(int stickiness) throws IllegalArgumentException, IllegalStateException {
        demand(ledger.refusalToOpen(stickiness));
        history.remember(ledger);
        return ledger.open(stickiness);
    }

    public int deposit(int vault, char kind, int flies)
            throws IndexOutOfBoundsException, IllegalArgumentException, IllegalStateException {
        demand(ledger.refusalToPut(vault, kind, flies));
        history.remember(ledger);
        return ledger.put(vault, kind, flies);
    }

    public int withdraw(int vault, char kind, int flies)
            throws IndexOutOfBoundsException, IllegalArgumentException, IllegalStateException,
            UnsupportedOperationException {
        demand(ledger.refusalToTake(vault, kind, flies));
        history.remember(ledger);
        return ledger.take(vault, kind, flies);
    }

    public int exchange(int vault, char from, char to, int flies)
            throws IndexOutOfBoundsException, IllegalArgumentException, IllegalStateException,
            UnsupportedOperationException {
        demand(ledger.refusalToSwap(vault, from, to, flies));
        history.remember(ledger);
        return ledger.swap(vault, from, to, flies);
    }

    public int mint(int vault, int drops)
            throws IndexOutOfBoundsException, IllegalArgumentException, IllegalStateException,
            UnsupportedOperationException {
        demand(ledger.refusalToIssue(vault, drops));
        history.remember(ledger);
        return ledger.issue(vault, drops);
    }

    public int redeem(int vault, int drops)
            throws IndexOutOfBoundsException, IllegalArgumentException, UnsupportedOperationException {
        demand(ledger.refusalToMelt(vault, drops));
        history.remember(ledger);
        return ledger.melt(vault, drops);
    }

    public boolean audit(int vault) throws IndexOutOfBoundsException, IllegalStateException {
        demand(ledger.refusalToInspect(vault));
        history.remember(ledger);
        return ledger.inspect(vault);
    }

    public int setRate(char kind, int legs) throws IllegalArgumentException {
        demand(ledger.refusalToRate(kind, legs));
        history.remember(ledger);
        return ledger.changeRate(kind, legs);
    }

    public int setStickiness(int vault, int stickiness) throws IndexOutOfBoundsException, IllegalArgumentException {
        demand(ledger.refusalToStick(vault, stickiness));
        history.remember(ledger);
        return ledger.changeStickiness(vault, stickiness);
    }

    public int passDays(int days) throws IllegalArgumentException {
        demand(ledger.refusalToWait(days));
        history.remember(ledger);
        return ledger.letPass(days);
    }

    public int vaultCount() {
        return ledger.vaultsOpen;
    }

    public int flies(int vault, char kind) throws IndexOutOfBoundsException, IllegalArgumentException {
        Vault asked = vaultAt(vault);
        return asked.held[kindNumber(kind)];
    }

    public int crumbs(int vault) throws IndexOutOfBoundsException {
        return vaultAt(vault).crumbLegs;
    }

    public int dew(int vault) throws IndexOutOfBoundsException {
        return vaultAt(vault).drops;
    }

    public int wings(int vault) throws IndexOutOfBoundsException {
        return vaultAt(vault).wingCount;
    }

    public int stickiness(int vault) throws IndexOutOfBoundsException {
        return vaultAt(vault).tenths;
    }

    public boolean isFrozen(int vault) throws IndexOutOfBoundsException {
        return vaultAt(vault).frozen();
    }

    public int daysUntilThaw(int vault) throws IndexOutOfBoundsException, NoSuchElementException {
        Vault asked = vaultAt(vault);
        if (!asked.frozen()) {
            throw new NoSuchElementException("the vault is not frozen");
        }
        return asked.frozenDays;
    }

    public int value(int vault) throws IndexOutOfBoundsException {
        return vaultAt(vault).legsAt(ledger.rates);
    }

    public int reserve(int vault) throws IndexOutOfBoundsException {
        Vault asked = vaultAt(vault);
        return asked.reserveOf(asked.legsAt(ledger.rates));
    }

    public boolean isSound(int vault) throws IndexOutOfBoundsException {
        return vaultAt(vault).soundAt(ledger.rates);
    }

    public int mintable(int vault) throws IndexOutOfBoundsException {
        return vaultAt(vault).dropsFreeAt(ledger.rates);
    }

    public int daysUntilSound(int vault) throws IndexOutOfBoundsException {
        return vaultAt(vault).daysBySubtraction(ledger.rates);
    }

    public int daysUntilSoundByCounting(int vault) throws IndexOutOfBoundsException {
        return vaultAt(vault).daysByCounting(ledger.rates);
    }

    public int mostFlies(int vault, char kind) throws IndexOutOfBoundsException, IllegalArgumentException {
        Vault asked = vaultAt(vault);
        return asked.mostByValue(kindNumber(kind), ledger.rates);
    }

    public int mostFliesByExchanges(int vault, char kind) throws IndexOutOfBoundsException, IllegalArgumentException {
        Vault asked = vaultAt(vault);
        return asked.mostBySwaps(kindNumber(kind), ledger.rates);
    }

    public int rate(char kind) throws IllegalArgumentException {
        return ledger.rates[kindNumber(kind)];
    }

    public int totalFlies(char kind) throws IllegalArgumentException {
        return ledger.fliesByVaults(kindNumber(kind));
    }

    public int totalFliesByAccounts(char kind) throws IllegalArgumentException {
        return ledger.fliesByAccounts(kindNumber(kind));
    }

    public int totalValue() {
        return ledger.valueByVaults();
    }

    public int totalValueByKinds() {
        return ledger.valueByKinds();
    }

    public int vaultByValue(int rank) throws NoSuchElementException {
        int vault = ledger.vaultAtRank(rank);
        if (vault < 0) {
            throw new NoSuchElementException("there is no such rank");
        }
        return vault;
    }

    public char kindByValue(int rank) throws NoSuchElementException {
        int kind = ledger.kindAtRank(rank);
        if (kind < 0) {
            throw new NoSuchElementException("there is no such rank");
        }
        return KINDS.charAt(kind);
    }

    public int day() {
        return ledger.today;
    }

    public int mintedTotal() {
        return ledger.dropsMinted;
    }

    public int redeemedTotal() {
        return ledger.dropsRedeemed;
    }

    public int evaporatedTotal() {
        return ledger.dropsEvaporated;
    }

    public int auditTotal() {
        return ledger.audits;
    }

    public int soundAuditTotal() {
        return ledger.soundAudits;
    }

    public double meanValue() throws ArithmeticException {
        if (ledger.vaultsOpen == 0) {
            throw new ArithmeticException("there are no vaults");
        }
        return (double) ledger.valueByVaults() / (double) ledger.vaultsOpen;
    }

    public float soundShare() throws ArithmeticException {
        if (ledger.audits == 0) {
            throw new ArithmeticException("there was no audit");
        }
        return (float) ledger.soundAudits / (float) ledger.audits;
    }

    public boolean isConsistent() {
        return ledger.fliesAgree() && ledger.valuesAgree() && ledger.predictionsAgree() && ledger.dewAgrees();
    }

    public int renderVault(int vault) throws IndexOutOfBoundsException {
        Vault asked = vaultAt(vault);
        output.setLength(0);
        for (int kind = 0; kind < KIND_COUNT; kind++) {
            output.append(KINDS.charAt(kind)).append(asked.held[kind]);
        }
        output.append('+').append(asked.crumbLegs);
        output.append('~').append(asked.drops);
        output.append('w').append(asked.wingCount);
        if (asked.frozen()) {
            output.append('*').append(asked.frozenDays);
        }
        return output.length();
    }

    public int renderRates() {
        output.setLength(0);
        for (int kind = 0; kind < KIND_COUNT; kind++) {
            if (kind > 0) {
                output.append(',');
            }
            output.append(KINDS.charAt(kind)).append(ledger.rates[kind]);
        }
        return output.length();
    }

    public char outputAt(int index) throws IndexOutOfBoundsException {
        if (index < 0 || index >= output.length()) {
            throw new IndexOutOfBoundsException("the output text has no such index");
        }
        return output.charAt(index);
    }

    public int type(char character) throws IllegalArgumentException, IllegalStateException {
        if (character < 32 || character > 126) {
            throw new IllegalArgumentException("the character code is not between 32 and 126");
        }
        if (script.length >= SCRIPT_LIMIT) {
            throw new IllegalStateException("the script buffer is full");
        }
        script.append(character);
        return script.length;
    }

    public int runScript() throws IllegalArgumentException, IllegalStateException {
        boolean wellFormed = script.parse();
        script.length = 0;
        if (!wellFormed) {
            latestErrorPosition = script.position;
            throw new IllegalArgumentException("the script does not have the required form");
        }
        beforeScript.copyFrom(ledger);
        int failed = firstRefusedOrder();
        if (failed >= 0) {
            ledger.copyFrom(beforeScript);
            latestFailedCommand = failed;
            throw new IllegalStateException("a command of the script failed");
        }
        history.remember(beforeScript);
        return script.orderCount;
    }

    public int errorPosition() throws NoSuchElementException {
        if (latestErrorPosition == NONE_YET) {
            throw new NoSuchElementException("every script so far had the required form");
        }
        return latestErrorPosition;
    }

    public int failedCommand() throws NoSuchElementException {
        if (latestFailedCommand == NONE_YET) {
            throw new NoSuchElementException("no command of a script has failed so far");
        }
        return latestFailedCommand;
    }

    public int undo() throws IllegalStateException {
        if (history.size == 0) {
            throw new IllegalStateException("there is nothing to undo");
        }
        history.takeBack(ledger);
        return history.size;
    }

    public int save() {
        snapshot.copyFrom(ledger);
        hasSnapshot = true;
        return ledger.vaultsOpen;
    }

    public int restore() throws IllegalStateException {
        if (!hasSnapshot) {
            throw new IllegalStateException("there is no snapshot");
        }
        ledger.copyFrom(snapshot);
        history.size = 0;
        return ledger.vaultsOpen;
    }

    private Vault vaultAt(int vault) {
        if (!ledger.hasVault(vault)) {
            throw new IndexOutOfBoundsException("there is no such vault");
        }
        return ledger.vaults[vault];
    }

    private static int kindNumber(char kind) {
        int number = KINDS.indexOf(kind);
        if (number < 0) {
            throw new IllegalArgumentException("the kind is not g, m or h");
        }
        return number;
    }

    private static void demand(Refusal refusal) {
        switch (refusal) {
            case NO_SUCH_VAULT:
                throw new IndexOutOfBoundsException("there is no such vault");
            case BAD_ARGUMENT:
                throw new IllegalArgumentException("an argument is not one of those that are allowed");
            case BAD_STATE:
                throw new IllegalStateException("the vault or the treasury is not ready for this");
            case BEYOND_MEANS:
                throw new UnsupportedOperationException("the flies or the dew of the vault do not allow this");
            default:
                break;
        }
    }

    /** Carries out the orders of the script up to the first refused one, whose index it returns, or -1. */
    private int firstRefusedOrder() {
        for (int i = 0; i < script.orderCount && i < ORDER_LIMIT; i++) {
            if (refusalOf(script.orders[i]) != Refusal.NONE) {
                return i;
            }
            carryOut(script.orders[i]);
        }
        return -1;
    }

    private Refusal refusalOf(Order order) {
        switch (order.command) {
            case VAULT:
                return ledger.refusalToOpen(order.number);
            case PUT:
                return ledger.refusalToPut(order.vault, order.kind, order.number);
            case TAKE:
                return ledger.refusalToTake(order.vault, order.kind, order.number);
            case SWAP:
                return ledger.refusalToSwap(order.vault, order.kind, order.otherKind, order.number);
            case MINT:
                return ledger.refusalToIssue(order.vault, order.number);
            case MELT:
                return ledger.refusalToMelt(order.vault, order.number);
            case AUDIT:
                return ledger.refusalToInspect(order.vault);
            case RATE:
                return ledger.refusalToRate(order.kind, order.number);
            case STICK:
                return ledger.refusalToStick(order.vault, order.number);
            default:
                return ledger.refusalToWait(order.number);
        }
    }

    private void carryOut(Order order) {
        switch (order.command) {
            case VAULT:
                ledger.open(order.number);
                break;
            case PUT:
                ledger.put(order.vault, order.kind, order.number);
                break;
            case TAKE:
                ledger.take(order.vault, order.kind, order.number);
                break;
            case SWAP:
                ledger.swap(order.vault, order.kind, order.otherKind, order.number);
                break;
            case MINT:
                ledger.issue(order.vault, order.number);
                break;
            case MELT:
                ledger.melt(order.vault, order.number);
                break;
            case AUDIT:
                ledger.inspect(order.vault);
                break;
            case RATE:
                ledger.changeRate(order.kind, order.number);
                break;
            case STICK:
                ledger.changeStickiness(order.vault, order.number);
                break;
            default:
                ledger.letPass(order.number);
                break;
        }
    }

    /** Why a change cannot be made. The changes ask first and act after, so that a script need not catch anything. */
    private enum Refusal { NONE, NO_SUCH_VAULT, BAD_ARGUMENT, BAD_STATE, BEYOND_MEANS }

    /**
     * The commands of the script language. In a form, v is the digit of a vault, d another digit, k a kind, o another
     * kind, n a number, and any other sign stands for itself.
     */
    private enum Command {
        VAULT("vault ", "d"),
        PUT("put ", "v kn"),
        TAKE("take ", "v kn"),
        SWAP("swap ", "v kon"),
        MINT("mint ", "v n"),
        MELT("melt ", "v n"),
        AUDIT("audit ", "v"),
        RATE("rate ", "kn"),
        STICK("stick ", "v d"),
        DAY("day", "");

        private final String word;
        private final String form;

        Command(String word, String form) {
            this.word = word;
            this.form = form;
        }
    }

    /** One command of a script with its arguments. */
    private static final class Order {
        private Command command = Command.DAY;
        private int vault = 0;
        private char kind = 'g';
        private char otherKind = 'm';
        private int number = 0;
    }

    /** The script buffer and the orders that were read from it. */
    private static final class Script {
        private static final char NO_SIGN = (char) 0;

        private final char[] text = new char[SCRIPT_LIMIT];
        private final Order[] orders = new Order[ORDER_LIMIT];
        private int length = 0;
        private int position = 0;
        private int orderCount = 0;

        Script() {
            for (int i = 0; i < ORDER_LIMIT; i++) {
                orders[i] = new Order();
            }
        }

        void append(char sign) {
            if (length < SCRIPT_LIMIT) {
                text[length] = sign;
                length++;
            }
        }

        /** Returns whether the text has the form of a script; position is its error position if not. */
        boolean parse() {
            position = 0;
            orderCount = 0;
            while (orderCount < ORDER_LIMIT) {
                if (!readOrder(orders[orderCount])) {
                    return false;
                }
                orderCount++;
                if (position == length) {
                    return true;
                }
                if (!readSign(';')) {
                    return false;
                }
            }
            return false;
        }

        private boolean readOrder(Order order) {
            if (!readWord(order)) {
                return false;
            }
            if (order.command == Command.DAY) {
                return readDays(order);
            }
            String form = order.command.form;
            for (int i = 0; i < form.length(); i++) {
                if (!readPart(form.charAt(i), order)) {
                    return false;
                }
            }
            return true;
        }

        /** No word begins another, so a text that fits none of them goes wrong where the longest fit ends. */
        private boolean readWord(Order order) {
            int longest = 0;
            for (Command command : COMMANDS) {
                int fit = fitOf(command.word);
                if (fit == command.word.length()) {
                    order.command = command;
                    position += fit;
                    return true;
                }
                longest = Math.max(longest, fit);
            }
            position += longest;
            return false;
        }

        private int fitOf(String word) {
            int fit = 0;
            while (fit < word.length() && signAt(position + fit) == word.charAt(fit)) {
                fit++;
            }
            return fit;
        }

        private boolean readDays(Order order) {
            order.number = 1;
            if (!readSign(' ')) {
                return true;
            }
            return readPart('n', order);
        }

        private boolean readPart(char part, Order order) {
            switch (part) {
                case 'v':
                    order.vault = readDigit();
                    return order.vault >= 0;
                case 'd':
                    order.number = readDigit();
                    return order.number >= 0;
                case 'n':
                    order.number = readNumber();
                    return order.number >= 0;
                case 'k':
                    order.kind = readKind();
                    return order.kind != NO_SIGN;
                case 'o':
                    order.otherKind = readKind();
                    return order.otherKind != NO_SIGN;
                default:
                    return readSign(part);
            }
        }

        private boolean readSign(char sign) {
            if (signAt(position) != sign) {
                return false;
            }
            position++;
            return true;
        }

        private int readDigit() {
            char sign = signAt(position);
            if (sign < '0' || sign > '9') {
                return -1;
            }
            position++;
            return sign - '0';
        }

        private int readNumber() {
            int first = readDigit();
            if (first < 0) {
                return -1;
            }
            int second = readDigit();
            return second < 0 ? first : 10 * first + second;
        }

        private char readKind() {
            char sign = signAt(position);
            if (KINDS.indexOf(sign) < 0) {
                return NO_SIGN;
            }
            position++;
            return sign;
        }

        private char signAt(int index) {
            return index < 0 || index >= length || index >= SCRIPT_LIMIT ? NO_SIGN : text[index];
        }
    }

    /** The states before the latest changes, in a ring whose rows are made once and used again. */
    private static final class History {
        private final Ledger[] states = new Ledger[UNDO_LIMIT];
        private int newest = 0;
        private int size = 0;

        History() {
            for (int i = 0; i < UNDO_LIMIT; i++) {
                states[i] = new Ledger();
            }
        }

        void remember(Ledger state) {
            newest = (newest + 1) % UNDO_LIMIT;
            states[newest].copyFrom(state);
            size = Math.min(size + 1, UNDO_LIMIT);
        }

        void takeBack(Ledger state) {
            state.copyFrom(states[newest]);
            newest = (newest + UNDO_LIMIT - 1) % UNDO_LIMIT;
            size--;
        }
    }

    /** Everything that undo and the snapshot cover. A change is made only after its refusal was asked for. */
    private static final class Ledger {
        private final Vault[] vaults = new Vault[VAULT_LIMIT];
        private final int[] rates = {2, 6, 20};
        private final int[] fliesIn = new int[KIND_COUNT];
        private final int[] fliesOut = new int[KIND_COUNT];
        private int vaultsOpen = 0;
        private int today = 0;
        private int dropsMinted = 0;
        private int dropsRedeemed = 0;
        private int dropsEvaporated = 0;
        private int audits = 0;
        private int soundAudits = 0;

        Ledger() {
            for (int i = 0; i < VAULT_LIMIT; i++) {
                vaults[i] = new Vault();
            }
        }

        void copyFrom(Ledger other) {
            for (int i = 0; i < VAULT_LIMIT; i++) {
                vaults[i].copyFrom(other.vaults[i]);
            }
            System.arraycopy(other.rates, 0, rates, 0, KIND_COUNT);
            System.arraycopy(other.fliesIn, 0, fliesIn, 0, KIND_COUNT);
            System.arraycopy(other.fliesOut, 0, fliesOut, 0, KIND_COUNT);
            vaultsOpen = other.vaultsOpen;
            today = other.today;
            dropsMinted = other.dropsMinted;
            dropsRedeemed = other.dropsRedeemed;
            dropsEvaporated = other.dropsEvaporated;
            audits = other.audits;
            soundAudits = other.soundAudits;
        }

        boolean hasVault(int vault) {
            return vault >= 0 && vault < vaultsOpen && vault < VAULT_LIMIT;
        }

        Refusal refusalToOpen(int stickiness) {
            if (!within(stickiness, 0, STICKINESS_LIMIT)) {
                return Refusal.BAD_ARGUMENT;
            }
            return vaultsOpen >= VAULT_LIMIT ? Refusal.BAD_STATE : Refusal.NONE;
        }

        int open(int stickiness) {
            int vault = vaultsOpen;
            vaults[vault].tenths = stickiness;
            vaultsOpen++;
            return vault;
        }

        Refusal refusalToPut(int vault, char kind, int flies) {
            if (!hasVault(vault)) {
                return Refusal.NO_SUCH_VAULT;
            }
            int k = KINDS.indexOf(kind);
            if (k < 0 || !within(flies, 1, FLIES_PER_CALL)) {
                return Refusal.BAD_ARGUMENT;
            }
            return vaults[vault].held[k] + flies > FLIES_LIMIT ? Refusal.BAD_STATE : Refusal.NONE;
        }

        int put(int vault, char kind, int flies) {
            int k = KINDS.indexOf(kind);
            vaults[vault].held[k] += flies;
            fliesIn[k] += flies;
            return vaults[vault].held[k];
        }

        Refusal refusalToTake(int vault, char kind, int flies) {
            if (!hasVault(vault)) {
                return Refusal.NO_SUCH_VAULT;
            }
            int k = KINDS.indexOf(kind);
            if (k < 0 || !within(flies, 1, FLIES_PER_CALL)) {
                return Refusal.BAD_ARGUMENT;
            }
            Vault asked = vaults[vault];
            if (asked.frozen()) {
                return Refusal.BAD_STATE;
            }
            int legsLeft = asked.legsAt(rates) - flies * rates[k];
            boolean possible = asked.held[k] >= flies && asked.drops <= asked.backingOf(legsLeft);
            return possible ? Refusal.NONE : Refusal.BEYOND_MEANS;
        }

        int take(int vault, char kind, int flies) {
            int k = KINDS.indexOf(kind);
            vaults[vault].held[k] -= flies;
            fliesOut[k] += flies;
            return vaults[vault].held[k];
        }

        Refusal refusalToSwap(int vault, char from, char to, int flies) {
            if (!hasVault(vault)) {
                return Refusal.NO_SUCH_VAULT;
            }
            int given = KINDS.indexOf(from);
            int wanted = KINDS.indexOf(to);
            if (given < 0 || wanted < 0 || given == wanted || !within(flies, 1, FLIES_PER_CALL)) {
                return Refusal.BAD_ARGUMENT;
            }
            Vault asked = vaults[vault];
            if (asked.frozen()) {
                return Refusal.BAD_STATE;
            }
            int received = quotient(flies * rates[given] + asked.crumbLegs, rates[wanted]);
            boolean possible = asked.held[given] >= flies && asked.held[wanted] + received <= FLIES_LIMIT;
            return possible ? Refusal.NONE : Refusal.BEYOND_MEANS;
        }

        int swap(int vault, char from, char to, int flies) {
            int given = KINDS.indexOf(from);
            int wanted = KINDS.indexOf(to);
            Vault asked = vaults[vault];
            int legs = flies * rates[given] + asked.crumbLegs;
            int received = quotient(legs, rates[wanted]);
            asked.held[given] -= flies;
            asked.held[wanted] += received;
            asked.crumbLegs = legs - received * rates[wanted];
            fliesOut[given] += flies;
            fliesIn[wanted] += received;
            return received;
        }

        Refusal refusalToIssue(int vault, int drops) {
            if (!hasVault(vault)) {
                return Refusal.NO_SUCH_VAULT;
            }
            if (!within(drops, 1, DROPS_PER_CALL)) {
                return Refusal.BAD_ARGUMENT;
            }
            if (vaults[vault].frozen()) {
                return Refusal.BAD_STATE;
            }
            return drops > vaults[vault].dropsFreeAt(rates) ? Refusal.BEYOND_MEANS : Refusal.NONE;
        }

        int issue(int vault, int drops) {
            vaults[vault].drops += drops;
            dropsMinted += drops;
            return vaults[vault].drops;
        }

        Refusal refusalToMelt(int vault, int drops) {
            if (!hasVault(vault)) {
                return Refusal.NO_SUCH_VAULT;
            }
            if (!within(drops, 1, DROPS_PER_CALL)) {
                return Refusal.BAD_ARGUMENT;
            }
            return vaults[vault].drops < drops ? Refusal.BEYOND_MEANS : Refusal.NONE;
        }

        int melt(int vault, int drops) {
            vaults[vault].drops -= drops;
            dropsRedeemed += drops;
            return vaults[vault].drops;
        }

        Refusal refusalToInspect(int vault) {
            if (!hasVault(vault)) {
                return Refusal.NO_SUCH_VAULT;
            }
            return vaults[vault].frozen() ? Refusal.BAD_STATE : Refusal.NONE;
        }

        boolean inspect(int vault) {
            boolean sound = vaults[vault].soundAt(rates);
            audits++;
            if (sound) {
                soundAudits++;
                vaults[vault].reward();
            } else {
                vaults[vault].punish();
            }
            return sound;
        }

        Refusal refusalToRate(char kind, int legs) {
            boolean good = KINDS.indexOf(kind) >= 0 && within(legs, 1, RATE_LIMIT);
            return good ? Refusal.NONE : Refusal.BAD_ARGUMENT;
        }

        int changeRate(char kind, int legs) {
            int k = KINDS.indexOf(kind);
            int previous = rates[k];
            rates[k] = legs;
            return previous;
        }

        Refusal refusalToStick(int vault, int stickiness) {
            if (!hasVault(vault)) {
                return Refusal.NO_SUCH_VAULT;
            }
            return within(stickiness, 0, STICKINESS_LIMIT) ? Refusal.NONE : Refusal.BAD_ARGUMENT;
        }

        int changeStickiness(int vault, int stickiness) {
            int previous = vaults[vault].tenths;
            vaults[vault].tenths = stickiness;
            return previous;
        }

        Refusal refusalToWait(int days) {
            return within(days, 1, DAYS_PER_CALL) ? Refusal.NONE : Refusal.BAD_ARGUMENT;
        }

        int letPass(int days) {
            int evaporated = 0;
            for (int i = 0; i < days; i++) {
                evaporated += letOneDayPass();
            }
            return evaporated;
        }

        private int letOneDayPass() {
            int evaporated = 0;
            today++;
            for (int i = 0; i < VAULT_LIMIT; i++) {
                evaporated += vaults[i].evaporate();
                vaults[i].thaw();
            }
            dropsEvaporated += evaporated;
            return evaporated;
        }

        int fliesByVaults(int kind) {
            int sum = 0;
            for (int i = 0; i < VAULT_LIMIT; i++) {
                sum += vaults[i].held[kind];
            }
            return sum;
        }

        int fliesByAccounts(int kind) {
            return fliesIn[kind] - fliesOut[kind];
        }

        int valueByVaults() {
            int sum = 0;
            for (int i = 0; i < VAULT_LIMIT; i++) {
                sum += vaults[i].legsAt(rates);
            }
            return sum;
        }

        int valueByKinds() {
            int sum = 0;
            for (int kind = 0; kind < KIND_COUNT; kind++) {
                sum += valueOfKind(kind);
            }
            for (int i = 0; i < VAULT_LIMIT; i++) {
                sum += vaults[i].crumbLegs;
            }
            return sum;
        }

        private int valueOfKind(int kind) {
            return fliesByVaults(kind) * rates[kind];
        }

        /** Returns -1 if there is no such rank. */
        int vaultAtRank(int rank) {
            for (int vault = 0; vault < vaultsOpen; vault++) {
                int before = 0;
                for (int other = 0; other < vaultsOpen; other++) {
                    before += ranksBefore(other, vault) ? 1 : 0;
                }
                if (before == rank) {
                    return vault;
                }
            }
            return -1;
        }

        private boolean ranksBefore(int vault, int other) {
            int legs = vaults[vault].legsAt(rates);
            int otherLegs = vaults[other].legsAt(rates);
            if (legs != otherLegs) {
                return legs > otherLegs;
            }
            if (vaults[vault].drops != vaults[other].drops) {
                return vaults[vault].drops < vaults[other].drops;
            }
            return vault < other;
        }

        /** Returns -1 if there is no such rank. */
        int kindAtRank(int rank) {
            for (int kind = 0; kind < KIND_COUNT; kind++) {
                int before = 0;
                for (int other = 0; other < KIND_COUNT; other++) {
                    before += kindRanksBefore(other, kind) ? 1 : 0;
                }
                if (before == rank) {
                    return kind;
                }
            }
            return -1;
        }

        private boolean kindRanksBefore(int kind, int other) {
            int legs = valueOfKind(kind);
            int otherLegs = valueOfKind(other);
            return legs > otherLegs || legs == otherLegs && kind < other;
        }

        boolean fliesAgree() {
            for (int kind = 0; kind < KIND_COUNT; kind++) {
                if (fliesByVaults(kind) != fliesByAccounts(kind)) {
                    return false;
                }
            }
            return true;
        }

        boolean valuesAgree() {
            return valueByVaults() == valueByKinds();
        }

        boolean predictionsAgree() {
            for (int i = 0; i < VAULT_LIMIT; i++) {
                if (vaults[i].daysBySubtraction(rates) != vaults[i].daysByCounting(rates)) {
                    return false;
                }
            }
            return true;
        }

        boolean dewAgrees() {
            int dropsLeft = 0;
            for (int i = 0; i < VAULT_LIMIT; i++) {
                dropsLeft += vaults[i].drops;
            }
            return dropsMinted == dropsRedeemed + dropsEvaporated + dropsLeft;
        }

        private static boolean within(int number, int least, int most) {
            return number >= least && number <= most;
        }
    }

    /** One vault. A vault that has not been added yet is empty, so sums may run over all of them. */
    private static final class Vault {
        private final int[] held = new int[KIND_COUNT];
        private int crumbLegs = 0;
        private int drops = 0;
        private int wingCount = 1;
        private int tenths = 0;
        private int frozenDays = 0;

        void copyFrom(Vault other) {
            System.arraycopy(other.held, 0, held, 0, KIND_COUNT);
            crumbLegs = other.crumbLegs;
            drops = other.drops;
            wingCount = other.wingCount;
            tenths = other.tenths;
            frozenDays = other.frozenDays;
        }

        int legsAt(int[] rates) {
            int legs = crumbLegs;
            for (int kind = 0; kind < KIND_COUNT; kind++) {
                legs += held[kind] * rates[kind];
            }
            return legs;
        }

        int reserveOf(int legs) {
            return legs * tenths / 10;
        }

        /** Returns the most dew with which a vault of this value is sound. */
        int backingOf(int legs) {
            return legs - reserveOf(legs);
        }

        boolean soundAt(int[] rates) {
            return drops <= backingOf(legsAt(rates));
        }

        int dropsFreeAt(int[] rates) {
            return Math.max(0, backingOf(legsAt(rates)) - drops);
        }

        int daysBySubtraction(int[] rates) {
            return Math.max(0, drops - backingOf(legsAt(rates)));
        }

        int daysByCounting(int[] rates) {
            int backing = backingOf(legsAt(rates));
            int days = 0;
            for (int left = drops; left > backing && left > 0; left--) {
                days++;
            }
            return days;
        }

        int mostByValue(int kind, int[] rates) {
            return quotient(legsAt(rates), rates[kind]);
        }

        int mostBySwaps(int kind, int[] rates) {
            int most = held[kind];
            int crumbsLeft = crumbLegs;
            boolean swapped = false;
            for (int other = 0; other < KIND_COUNT; other++) {
                if (other != kind && held[other] > 0) {
                    int legs = held[other] * rates[other] + crumbsLeft;
                    int received = quotient(legs, rates[kind]);
                    most += received;
                    crumbsLeft = legs - received * rates[kind];
                    swapped = true;
                }
            }
            return swapped ? most : most + quotient(crumbsLeft, rates[kind]);
        }

        boolean frozen() {
            return frozenDays > 0;
        }

        void reward() {
            wingCount = Math.min(wingCount + 1, WINGS_LIMIT);
        }

        void punish() {
            wingCount = Math.max(wingCount - 1, 0);
            if (wingCount == 0) {
                frozenDays = FROZEN_DAYS;
            }
        }

        /** Returns the number of drops that evaporate in one day. */
        int evaporate() {
            if (drops == 0) {
                return 0;
            }
            drops--;
            return 1;
        }

        void thaw() {
            if (frozenDays > 0) {
                frozenDays--;
            }
        }
    }

    /** A rate is never below 1; the test only shows that nothing is divided by 0. */
    private static int quotient(int legs, int rate) {
        return rate < 1 ? 0 : legs / rate;
    }
}
