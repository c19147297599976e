import java.util.ArrayDeque;
import java.util.ArrayList;
import java.util.Comparator;
import java.util.Deque;
import java.util.List;
import java.util.Map;
import java.util.NoSuchElementException;
import java.util.TreeMap;
import java.util.regex.Matcher;
import java.util.regex.Pattern;

/**
 * A second treasury, written apart from the class and in another way: whole states are copied before every change, and
 * scripts are matched by a regular expression.
 */
final class Model {
    private static final String NUMBER = "[0-9][0-9]?";
    private static final Pattern SCRIPT = Pattern.compile("C(;C)*".replace("C", "("
        + "vault [0-9]|(put|take) [0-9] [gmh]" + NUMBER + "|swap [0-9] [gmh][gmh]" + NUMBER + "|(mint|melt) [0-9] "
        + NUMBER + "|audit [0-9]|rate [gmh]" + NUMBER + "|stick [0-9] [0-9]|day( " + NUMBER + ")?)"));

    private static final class Keep {
        final Map<Character, Integer> flies = new TreeMap<>(Map.of('g', 0, 'm', 0, 'h', 0));
        int crumbs;
        int dew;
        int wings = 1;
        int stickiness;
        int frozen;

        Keep copy() {
            Keep copy = new Keep();
            copy.flies.putAll(flies);
            copy.crumbs = crumbs;
            copy.dew = dew;
            copy.wings = wings;
            copy.stickiness = stickiness;
            copy.frozen = frozen;
            return copy;
        }
    }

    private static final class State {
        final List<Keep> keeps = new ArrayList<>();
        final Map<Character, Integer> rates = new TreeMap<>(Map.of('g', 2, 'm', 6, 'h', 20));
        final Map<String, Integer> totals = new TreeMap<>();

        State copy() {
            State copy = new State();
            for (Keep keep : keeps) {
                copy.keeps.add(keep.copy());
            }
            copy.rates.putAll(rates);
            copy.totals.putAll(totals);
            return copy;
        }

        void count(String name, int more) {
            totals.merge(name, more, Integer::sum);
        }

        int total(String name) {
            return totals.getOrDefault(name, 0);
        }
    }

    private State state = new State();
    private State snapshot;
    private final Deque<State> past = new ArrayDeque<>();
    private String buffer = "";
    private String output = "";
    private Integer errorPosition;
    private Integer failedCommand;

    /** Makes the call of the face with this name; booleans, characters and so on come as they are. */
    Object call(String name, int a, char b, char c, int d) {
        switch (name) {
            case "addVault", "deposit", "withdraw", "exchange", "mint", "redeem", "audit", "setRate", "setStickiness",
                "passDays":
                State before = state.copy();
                Object answer = change(name, a, b, c, d);
                remember(before);
                return answer;
            case "type":
                return type(b);
            case "runScript":
                return runScript();
            case "undo":
                return undo();
            case "save":
                snapshot = state.copy();
                return state.keeps.size();
            case "restore":
                require(snapshot != null, new IllegalStateException());
                state = snapshot.copy();
                past.clear();
                return state.keeps.size();
            case "errorPosition":
                require(errorPosition != null, new NoSuchElementException());
                return errorPosition;
            case "failedCommand":
                require(failedCommand != null, new NoSuchElementException());
                return failedCommand;
            case "renderVault":
                output = vaultText(a);
                return output.length();
            case "renderRates":
                output = "g" + state.rates.get('g') + ",m" + state.rates.get('m') + ",h" + state.rates.get('h');
                return output.length();
            case "outputAt":
                require(a >= 0 && a < output.length(), new IndexOutOfBoundsException());
                return output.charAt(a);
            default:
                return query(name, a, b);
        }
    }

    private static void require(boolean holds, RuntimeException otherwise) {
        if (!holds) {
            throw otherwise;
        }
    }

    private static void requireBetween(int number, int least, int most) {
        require(number >= least && number <= most, new IllegalArgumentException());
    }

    private static void requireKind(char kind) {
        require("gmh".indexOf(kind) >= 0, new IllegalArgumentException());
    }

    private Keep keep(int vault) {
        require(vault >= 0 && vault < state.keeps.size(), new IndexOutOfBoundsException());
        return state.keeps.get(vault);
    }

    private void remember(State before) {
        past.addLast(before);
        if (past.size() > 8) {
            past.removeFirst();
        }
    }

    private int undo() {
        require(!past.isEmpty(), new IllegalStateException());
        state = past.removeLast();
        return past.size();
    }

    private int value(Keep keep) {
        return keep.flies.entrySet().stream().mapToInt(e -> e.getValue() * state.rates.get(e.getKey())).sum()
            + keep.crumbs;
    }

    private boolean sound(Keep keep) {
        return keep.dew <= value(keep) - value(keep) * keep.stickiness / 10;
    }

    private void requireThawed(Keep keep) {
        require(keep.frozen == 0, new IllegalStateException());
    }

    /** May leave the state half changed when it throws: the caller has a copy. */
    private Object change(String name, int a, char b, char c, int d) {
        State before = state.copy();
        try {
            return rawChange(name, a, b, c, d);
        } catch (RuntimeException e) {
            state = before;
            throw e;
        }
    }

    private Object rawChange(String name, int a, char b, char c, int d) {
        switch (name) {
            case "addVault":
                requireBetween(d, 0, 9);
                require(state.keeps.size() < 5, new IllegalStateException());
                state.keeps.add(new Keep());
                state.keeps.get(state.keeps.size() - 1).stickiness = d;
                return state.keeps.size() - 1;
            case "deposit":
                return deposit(keep(a), b, d);
            case "withdraw":
                return withdraw(keep(a), b, d);
            case "exchange":
                return exchange(keep(a), b, c, d);
            case "mint":
                return mint(keep(a), d);
            case "redeem":
                return redeem(keep(a), d);
            case "audit":
                return audit(keep(a));
            case "setRate":
                requireKind(b);
                requireBetween(d, 1, 50);
                return state.rates.put(b, d);
            case "setStickiness":
                Keep keep = keep(a);
                requireBetween(d, 0, 9);
                int previous = keep.stickiness;
                keep.stickiness = d;
                return previous;
            default:
                return passDays(d);
        }
    }

    private int deposit(Keep keep, char kind, int flies) {
        requireKind(kind);
        requireBetween(flies, 1, 30);
        int after = keep.flies.merge(kind, flies, Integer::sum);
        require(after <= 99, new IllegalStateException());
        state.count("account " + kind, flies);
        return after;
    }

    private int withdraw(Keep keep, char kind, int flies) {
        requireKind(kind);
        requireBetween(flies, 1, 30);
        requireThawed(keep);
        int after = keep.flies.merge(kind, -flies, Integer::sum);
        require(after >= 0 && sound(keep), new UnsupportedOperationException());
        state.count("account " + kind, -flies);
        return after;
    }

    private int exchange(Keep keep, char from, char to, int flies) {
        requireKind(from);
        requireKind(to);
        require(from != to, new IllegalArgumentException());
        requireBetween(flies, 1, 30);
        requireThawed(keep);
        int legs = keep.crumbs + flies * state.rates.get(from);
        int received = 0;
        while (legs >= state.rates.get(to)) {
            legs -= state.rates.get(to);
            received++;
        }
        keep.crumbs = legs;
        int left = keep.flies.merge(from, -flies, Integer::sum);
        int got = keep.flies.merge(to, received, Integer::sum);
        require(left >= 0 && got <= 99, new UnsupportedOperationException());
        state.count("account " + from, -flies);
        state.count("account " + to, received);
        return received;
    }

    private int mint(Keep keep, int drops) {
        requireBetween(drops, 1, 99);
        requireThawed(keep);
        keep.dew += drops;
        require(sound(keep), new UnsupportedOperationException());
        state.count("minted", drops);
        return keep.dew;
    }

    private int redeem(Keep keep, int drops) {
        requireBetween(drops, 1, 99);
        require(keep.dew >= drops, new UnsupportedOperationException());
        keep.dew -= drops;
        state.count("redeemed", drops);
        return keep.dew;
    }

    private boolean audit(Keep keep) {
        requireThawed(keep);
        boolean sound = sound(keep);
        state.count("audits", 1);
        state.count("sound audits", sound ? 1 : 0);
        if (sound && keep.wings < 3) {
            keep.wings++;
        }
        if (!sound && keep.wings > 0) {
            keep.wings--;
        }
        if (!sound && keep.wings == 0) {
            keep.frozen = 5;
        }
        return sound;
    }

    private int passDays(int days) {
        requireBetween(days, 1, 30);
        int gone = 0;
        for (Keep keep : state.keeps) {
            gone += Math.min(keep.dew, days);
            keep.dew -= Math.min(keep.dew, days);
            keep.frozen = Math.max(0, keep.frozen - days);
        }
        state.count("evaporated", gone);
        state.count("day", days);
        return gone;
    }

    private int type(char character) {
        requireBetween(character, 32, 126);
        require(buffer.length() < 60, new IllegalStateException());
        buffer += character;
        return buffer.length();
    }

    private int runScript() {
        String text = buffer;
        buffer = "";
        if (!SCRIPT.matcher(text).matches()) {
            errorPosition = errorPositionOf(text);
            throw new IllegalArgumentException();
        }
        State before = state.copy();
        String[] commands = text.split(";");
        for (int i = 0; i < commands.length; i++) {
            try {
                runCommand(commands[i]);
            } catch (RuntimeException e) {
                state = before;
                failedCommand = i;
                throw new IllegalStateException();
            }
        }
        remember(before);
        return commands.length;
    }

    /** A beginning can be continued if it is a script itself or the matcher was stopped only by its end. */
    private static int errorPositionOf(String text) {
        for (int end = 1; end <= text.length(); end++) {
            Matcher matcher = SCRIPT.matcher(text.substring(0, end));
            if (!matcher.matches() && !matcher.hitEnd()) {
                return end - 1;
            }
        }
        return text.length();
    }

    private void runCommand(String command) {
        String[] parts = command.split(" ");
        String last = parts[parts.length - 1];
        int number = last.matches(".*[0-9]") ? Integer.parseInt(last.replaceAll("[gmh]", "")) : 1;
        int vault = parts.length > 1 && parts[1].matches("[0-9]") ? Integer.parseInt(parts[1]) : -1;
        char kind = last.charAt(0);
        switch (parts[0]) {
            case "vault" -> change("addVault", 0, 'x', 'x', number);
            case "put" -> change("deposit", vault, kind, 'x', number);
            case "take" -> change("withdraw", vault, kind, 'x', number);
            case "swap" -> change("exchange", vault, kind, last.charAt(1), number);
            case "mint" -> change("mint", vault, 'x', 'x', number);
            case "melt" -> change("redeem", vault, 'x', 'x', number);
            case "audit" -> change("audit", vault, 'x', 'x', 0);
            case "rate" -> change("setRate", 0, kind, 'x', number);
            case "stick" -> change("setStickiness", vault, 'x', 'x', number);
            default -> change("passDays", 0, 'x', 'x', number);
        }
    }

    private String vaultText(int vault) {
        Keep keep = keep(vault);
        String text = "g" + keep.flies.get('g') + "m" + keep.flies.get('m') + "h" + keep.flies.get('h') + "+"
            + keep.crumbs + "~" + keep.dew + "w" + keep.wings;
        return keep.frozen > 0 ? text + "*" + keep.frozen : text;
    }

    private Object query(String name, int a, char b) {
        switch (name) {
            case "vaultCount":
                return state.keeps.size();
            case "day":
                return state.total("day");
            case "mintedTotal":
                return state.total("minted");
            case "redeemedTotal":
                return state.total("redeemed");
            case "evaporatedTotal":
                return state.total("evaporated");
            case "auditTotal":
                return state.total("audits");
            case "soundAuditTotal":
                return state.total("sound audits");
            case "totalValue", "totalValueByKinds":
                return state.keeps.stream().mapToInt(this::value).sum();
            case "isConsistent":
                return true;
            case "meanValue":
                require(!state.keeps.isEmpty(), new ArithmeticException());
                return state.keeps.stream().mapToInt(this::value).sum() / (double) state.keeps.size();
            case "soundShare":
                require(state.total("audits") > 0, new ArithmeticException());
                return state.total("sound audits") / (float) state.total("audits");
            case "vaultByValue":
                require(a >= 0 && a < state.keeps.size(), new NoSuchElementException());
                List<Keep> sorted = new ArrayList<>(state.keeps);
                sorted.sort(Comparator.comparing((Keep k) -> -value(k)).thenComparing(k -> k.dew));
                return state.keeps.indexOf(sorted.get(a));
            case "kindByValue":
                require(a >= 0 && a < 3, new NoSuchElementException());
                List<Character> kinds = new ArrayList<>(List.of('g', 'm', 'h'));
                kinds.sort(Comparator.comparing(k -> -totalFlies(k) * state.rates.get(k)));
                return kinds.get(a);
            case "rate":
                requireKind(b);
                return state.rates.get(b);
            case "totalFlies", "totalFliesByAccounts":
                requireKind(b);
                require(totalFlies(b) == state.total("account " + b), new ModelIsWrong());
                return totalFlies(b);
            default:
                return queryVault(name, keep(a), b);
        }
    }

    /** The model itself is wrong. */
    private static final class ModelIsWrong extends RuntimeException {
        private static final long serialVersionUID = 1;
    }

    private int totalFlies(char kind) {
        return state.keeps.stream().mapToInt(k -> k.flies.get(kind)).sum();
    }

    private Object queryVault(String name, Keep keep, char kind) {
        int value = value(keep);
        int reserve = value * keep.stickiness / 10;
        switch (name) {
            case "flies":
                requireKind(kind);
                return keep.flies.get(kind);
            case "crumbs":
                return keep.crumbs;
            case "dew":
                return keep.dew;
            case "wings":
                return keep.wings;
            case "stickiness":
                return keep.stickiness;
            case "isFrozen":
                return keep.frozen > 0;
            case "daysUntilThaw":
                require(keep.frozen > 0, new NoSuchElementException());
                return keep.frozen;
            case "value":
                return value;
            case "reserve":
                return reserve;
            case "isSound":
                return sound(keep);
            case "mintable":
                return Math.max(0, value - reserve - keep.dew);
            case "daysUntilSound", "daysUntilSoundByCounting":
                return Math.max(0, keep.dew - value + reserve);
            case "mostFlies", "mostFliesByExchanges":
                requireKind(kind);
                return value / state.rates.get(kind);
            default:
                throw new ModelIsWrong();
        }
    }
}
