import java.math.BigInteger;
import java.util.ArrayDeque;
import java.util.ArrayList;
import java.util.Deque;
import java.util.HashMap;
import java.util.HashSet;
import java.util.List;
import java.util.Map;
import java.util.Set;
import java.util.TreeMap;
import java.util.TreeSet;
import java.util.regex.Matcher;
import java.util.regex.Pattern;

/** The document's words, one by one, without regard to speed; it shares no code with the class. */
final class Model {
    private static final int INVALID = -1000001;
    private static final int IMPOSSIBLE = -1000002;
    private static final int LIMIT = -1000003;
    private static final int MISSING = -1000004;
    private static final Pattern ROUND = Pattern.compile("([0-9]{0,2}):([0-9]);");
    private static final BigInteger MOST = BigInteger.valueOf(Long.MAX_VALUE);

    private record Round(int places, int signal, int belief) {
    }

    private record Road(int low, int high) {
        static Road of(int one, int other) {
            return new Road(Math.min(one, other), Math.max(one, other));
        }
    }

    private record Move(int from, int to, int signal) {
    }

    private record Verdict(int rounds, int best) {
    }

    private record Flaw(int position, int reason) {
    }

    private static final class State {
        List<Integer> colors = new ArrayList<>();
        Map<Road, Boolean> roads = new HashMap<>();
        int hare = 0;
        int signals = 0;
        int budget = 1;
        Set<Integer> belief = new TreeSet<>();
        List<Round> rounds = new ArrayList<>();
        boolean caught = false;

        State copy() {
            State copy = new State();
            copy.colors.addAll(colors);
            copy.roads.putAll(roads);
            copy.hare = hare;
            copy.signals = signals;
            copy.budget = budget;
            copy.belief.addAll(belief);
            copy.rounds.addAll(rounds);
            copy.caught = caught;
            return copy;
        }
    }

    private State now = new State();
    private final Deque<State> history = new ArrayDeque<>();
    private String text = "";
    /** From, to and signal of each move, by the places that are checked. */
    private final Map<Set<Integer>, List<Move>> moves = new HashMap<>();
    private Map<Integer, Verdict> hearing;
    private Map<Integer, Verdict> unhearing;

    private void change() {
        history.addLast(now.copy());
        if (history.size() == 5) {
            history.removeFirst();
        }
    }

    /** Verdicts hang on the country and the settings alone. */
    private void forget() {
        moves.clear();
        hearing = null;
        unhearing = null;
    }

    private boolean noPlace(int place) {
        return place < 0 || place >= now.colors.size();
    }

    private boolean noSet(int set) {
        return set < 0 || set >= 1 << now.colors.size();
    }

    private static Set<Integer> unpack(int bits) {
        Set<Integer> set = new TreeSet<>();
        for (int i = 0; i < 7; i++) {
            if ((bits & 1 << i) != 0) {
                set.add(i);
            }
        }
        return set;
    }

    private static int pack(Set<Integer> set) {
        int bits = 0;
        for (int place : set) {
            bits += 1 << place;
        }
        return bits;
    }

    // ---- the country

    int place(int color) {
        if (color < 0 || color > 3) {
            return INVALID;
        }
        if (now.colors.size() == 7) {
            return LIMIT;
        }
        change();
        forget();
        now.colors.add(color);
        return now.colors.size() - 1;
    }

    int road(int one, int other) {
        if (noPlace(one) || noPlace(other) || one == other) {
            return INVALID;
        }
        if (now.roads.containsKey(Road.of(one, other))) {
            return IMPOSSIBLE;
        }
        change();
        forget();
        now.roads.put(Road.of(one, other), true);
        return now.roads.size();
    }

    int shut(int one, int other, int is) {
        if (noPlace(one) || noPlace(other) || one == other || is < 0 || is > 1) {
            return INVALID;
        }
        Boolean open = now.roads.get(Road.of(one, other));
        if (open == null || open == (is == 0)) {
            return IMPOSSIBLE;
        }
        change();
        forget();
        now.roads.put(Road.of(one, other), is == 0);
        return openRoads();
    }

    private int openRoads() {
        int open = 0;
        for (boolean is : now.roads.values()) {
            open += is ? 1 : 0;
        }
        return open;
    }

    int set(int what, int value) {
        if (what < 0 || what > 2 || value < 0 || value > 3) {
            return INVALID;
        }
        if (what == 2 && value != 1 && value != 2) {
            return INVALID;
        }
        change();
        forget();
        int was;
        if (what == 0) {
            was = now.hare;
            now.hare = value;
        } else if (what == 1) {
            was = now.signals;
            now.signals = value;
        } else {
            was = now.budget;
            now.budget = value;
        }
        return was;
    }

    // ---- the hare

    private boolean isOpen(int one, int other) {
        return one != other && now.roads.getOrDefault(Road.of(one, other), false);
    }

    private Set<Integer> neighbors(int place, boolean openOnly) {
        Set<Integer> found = new TreeSet<>();
        for (int other = 0; other < now.colors.size(); other++) {
            if (openOnly ? isOpen(place, other) : now.roads.containsKey(Road.of(place, other))) {
                found.add(other);
            }
        }
        return found;
    }

    private Set<Integer> goals(int place, Set<Integer> checked) {
        Set<Integer> near = neighbors(place, true);
        Set<Integer> goals = new TreeSet<>();
        switch (now.hare) {
            case 0 -> goals.addAll(near);
            case 1 -> {
                goals.add(place);
                goals.addAll(near);
            }
            case 2 -> {
                for (int first : near) {
                    goals.add(first);
                    goals.addAll(neighbors(first, true));
                }
            }
            default -> {
                goals.addAll(near);
                goals.removeAll(checked);
                goals.add(place);
            }
        }
        if (goals.isEmpty()) {
            goals.add(place);
        }
        return goals;
    }

    private int heard(int from, int to) {
        return switch (now.signals) {
            case 0 -> 0;
            case 1 -> now.colors.get(to);
            case 2 -> from != to ? 1 : 0;
            default -> neighbors(to, true).size() > 3 ? 3 : neighbors(to, true).size();
        };
    }

    /** The belief behind a round; -1 as the signal is for all together. */
    private Set<Integer> later(Set<Integer> belief, Set<Integer> checked, int signal) {
        Set<Integer> later = new TreeSet<>();
        for (Move move : moves.computeIfAbsent(checked, this::movesWith)) {
            boolean starts = belief.contains(move.from()) && !checked.contains(move.from());
            if (starts && (signal == -1 || move.signal() == signal)) {
                later.add(move.to());
            }
        }
        return later;
    }

    private List<Move> movesWith(Set<Integer> checked) {
        List<Move> found = new ArrayList<>();
        for (int from = 0; from < now.colors.size(); from++) {
            for (int to : goals(from, checked)) {
                found.add(new Move(from, to, heard(from, to)));
            }
        }
        return found;
    }

    // ---- rounds

    int believe(int belief) {
        if (noSet(belief)) {
            return INVALID;
        }
        change();
        now.belief = unpack(belief);
        now.rounds = new ArrayList<>();
        now.caught = false;
        return now.belief.size();
    }

    private static boolean possible(Model model, State state, int places, int signal) {
        Set<Integer> checked = unpack(places);
        if (state.belief.isEmpty() || signal > 3) {
            return false;
        }
        return checked.containsAll(state.belief) || !model.later(state.belief, checked, signal).isEmpty();
    }

    private void make(State state, int places, int signal) {
        Set<Integer> checked = unpack(places);
        if (checked.containsAll(state.belief)) {
            state.caught = true;
        }
        state.belief = later(state.belief, checked, signal);
        state.rounds.add(new Round(places, signal, pack(state.belief)));
    }

    int check(int places, int signal) {
        if (noSet(places) || signal < 0 || signal > 3 || unpack(places).size() > now.budget) {
            return INVALID;
        }
        if (!possible(this, now, places, signal)) {
            return IMPOSSIBLE;
        }
        change();
        make(now, places, signal);
        return now.belief.size();
    }

    int placeOf(int place, int what) {
        if (noPlace(place) || what < 0 || what > 4) {
            return INVALID;
        }
        return switch (what) {
            case 0 -> now.colors.get(place);
            case 1 -> pack(neighbors(place, false));
            case 2 -> pack(neighbors(place, true));
            case 3 -> pack(goals(place, Set.of()));
            default -> now.belief.contains(place) ? 1 : 0;
        };
    }

    int roundOf(int round, int what) {
        if (round < 0 || round > 7 || what < 0 || what > 2) {
            return INVALID;
        }
        if (round >= now.rounds.size()) {
            return MISSING;
        }
        Round told = now.rounds.get(now.rounds.size() - 1 - round);
        return what == 0 ? told.places() : what == 1 ? told.signal() : told.belief();
    }

    // ---- what would be

    int behind(int belief, int places, int signal) {
        if (noSet(belief) || noSet(places) || signal < -1 || signal > 3) {
            return INVALID;
        }
        return pack(later(unpack(belief), unpack(places), signal));
    }

    private Map<Integer, Verdict> verdicts(boolean hears) {
        List<Map<Integer, List<Integer>>> nexts = new ArrayList<>();
        for (int belief = 0; !noSet(belief); belief++) {
            nexts.add(nextsByCheck(belief, hears));
        }
        Map<Integer, Verdict> known = new HashMap<>();
        known.put(0, new Verdict(0, 0));
        for (int n = 1; ; n++) {
            Map<Integer, Verdict> found = new HashMap<>();
            for (int belief = 1; belief < nexts.size(); belief++) {
                if (!known.containsKey(belief)) {
                    int best = bestCheck(nexts.get(belief), known.keySet());
                    if (best >= 0) {
                        found.put(belief, new Verdict(n, best));
                    }
                }
            }
            if (found.isEmpty()) {
                return known;
            }
            known.putAll(found);
        }
    }

    private Map<Integer, List<Integer>> nextsByCheck(int belief, boolean hears) {
        Map<Integer, List<Integer>> nexts = new TreeMap<>();
        for (int places = 0; !noSet(places); places++) {
            if (unpack(places).size() <= now.budget) {
                nexts.put(places, nextBeliefs(belief, places, hears));
            }
        }
        return nexts;
    }

    private static int bestCheck(Map<Integer, List<Integer>> nexts, Set<Integer> known) {
        for (Map.Entry<Integer, List<Integer>> check : nexts.entrySet()) {
            if (known.containsAll(check.getValue())) {
                return check.getKey();
            }
        }
        return -1;
    }

    private List<Integer> nextBeliefs(int belief, int places, boolean hears) {
        List<Integer> next = new ArrayList<>();
        for (int signal = hears ? 0 : -1; signal <= (hears ? 3 : -1); signal++) {
            Set<Integer> later = later(unpack(belief), unpack(places), signal);
            if (!later.isEmpty()) {
                next.add(pack(later));
            }
        }
        return next;
    }

    private Map<Integer, Verdict> hearing() {
        if (hearing == null) {
            hearing = verdicts(true);
        }
        return hearing;
    }

    private Map<Integer, Verdict> unhearing() {
        if (unhearing == null) {
            unhearing = verdicts(false);
        }
        return unhearing;
    }

    int sure(int belief, int what) {
        if (noSet(belief) || what < 0 || what > 1) {
            return INVALID;
        }
        Verdict verdict = hearing().get(belief);
        if (verdict == null) {
            return MISSING;
        }
        return what == 0 ? verdict.rounds() : verdict.best();
    }

    int deaf(int belief) {
        if (noSet(belief)) {
            return INVALID;
        }
        Verdict verdict = unhearing().get(belief);
        return verdict == null ? MISSING : verdict.rounds();
    }

    int memory(int belief) {
        if (noSet(belief)) {
            return INVALID;
        }
        if (!hearing().containsKey(belief)) {
            return MISSING;
        }
        Set<Integer> seen = new HashSet<>();
        remember(belief, seen);
        return seen.size();
    }

    private void remember(int belief, Set<Integer> seen) {
        if (belief != 0 && seen.add(belief)) {
            for (int next : nextBeliefs(belief, hearing().get(belief).best(), true)) {
                remember(next, seen);
            }
        }
    }

    int beliefs(int what) {
        if (what < 0 || what > 4) {
            return INVALID;
        }
        int all = 0;
        int sure = 0;
        int most = 0;
        int hardest = MISSING;
        int deaf = 0;
        for (int belief = 1; !noSet(belief); belief++) {
            all++;
            Verdict verdict = hearing().get(belief);
            if (verdict != null) {
                sure++;
                if (verdict.rounds() > most) {
                    most = verdict.rounds();
                    hardest = belief;
                }
            }
            deaf += unhearing().containsKey(belief) ? 1 : 0;
        }
        return new int[] {all, sure, most, hardest, deaf}[what];
    }

    int dangers(int belief) {
        if (noSet(belief)) {
            return INVALID;
        }
        if (!hearing().containsKey(belief)) {
            return IMPOSSIBLE;
        }
        Set<Integer> found = new TreeSet<>();
        for (int place = 0; place < now.colors.size(); place++) {
            Set<Integer> more = unpack(belief);
            if (more.add(place) && !hearing().containsKey(pack(more))) {
                found.add(place);
            }
        }
        return pack(found);
    }

    /** The ways by place, those through the shunned place left out. */
    private BigInteger[] walk(int moves, int shunned) {
        int places = now.colors.size();
        BigInteger[] ways = new BigInteger[places];
        for (int place = 0; place < places; place++) {
            ways[place] = now.belief.contains(place) && place != shunned ? BigInteger.ONE : BigInteger.ZERO;
        }
        for (int i = 0; i < moves; i++) {
            BigInteger[] next = new BigInteger[places];
            for (int to = 0; to < places; to++) {
                next[to] = BigInteger.ZERO;
                for (int from = 0; from < places; from++) {
                    if (to != shunned && goals(from, Set.of()).contains(to)) {
                        next[to] = next[to].add(ways[from]);
                    }
                }
            }
            ways = next;
        }
        return ways;
    }

    long ways(int moves, int place) {
        if (moves < 0 || moves > 40 || noPlace(place)) {
            return INVALID;
        }
        BigInteger ways = walk(moves, -1)[place];
        return ways.compareTo(MOST) > 0 ? LIMIT : ways.longValueExact();
    }

    long met(int moves, int place, int part) {
        if (moves < 0 || moves > 15 || noPlace(place) || part < 0 || part > 1) {
            return INVALID;
        }
        BigInteger all = BigInteger.ZERO;
        BigInteger without = BigInteger.ZERO;
        for (BigInteger ways : walk(moves, -1)) {
            all = all.add(ways);
        }
        for (BigInteger ways : walk(moves, place)) {
            without = without.add(ways);
        }
        return (part == 1 ? all : all.subtract(without)).longValueExact();
    }

    int count(int what) {
        return switch (what) {
            case 0 -> now.colors.size();
            case 1 -> now.roads.size();
            case 2 -> openRoads();
            case 3 -> pack(now.belief);
            case 4 -> now.rounds.size();
            case 5 -> now.caught ? 1 : 0;
            case 6 -> history.size();
            case 7 -> text.length();
            case 20 -> now.hare;
            case 21 -> now.signals;
            case 22 -> now.budget;
            default -> INVALID;
        };
    }

    int undo() {
        if (history.isEmpty()) {
            return IMPOSSIBLE;
        }
        now = history.removeLast();
        forget();
        return history.size();
    }

    // ---- texts

    int type(int character) {
        if (character < 32 || character > 126) {
            return INVALID;
        }
        if (text.length() == 60) {
            return LIMIT;
        }
        text += (char) character;
        return text.length();
    }

    int clearText() {
        int was = text.length();
        text = "";
        return was;
    }

    private Flaw flaw(State state) {
        int position = 0;
        Matcher matcher = ROUND.matcher(text);
        while (position < text.length()) {
            matcher.region(position, text.length());
            if (!matcher.lookingAt()) {
                return new Flaw(position, 1);
            }
            Set<Integer> places = new TreeSet<>();
            for (char digit : matcher.group(1).toCharArray()) {
                if (noPlace(digit - '0') || !places.add(digit - '0')) {
                    return new Flaw(position, 2);
                }
            }
            if (places.size() > state.budget) {
                return new Flaw(position, 2);
            }
            int signal = Integer.parseInt(matcher.group(2));
            if (!possible(this, state, pack(places), signal)) {
                return new Flaw(position, 3);
            }
            make(state, pack(places), signal);
            position = matcher.end();
        }
        return null;
    }

    int fault(int what) {
        if (what < 0 || what > 1) {
            return INVALID;
        }
        Flaw flaw = flaw(now.copy());
        if (flaw == null) {
            return MISSING;
        }
        return what == 0 ? flaw.position() : flaw.reason();
    }

    int play() {
        State played = now.copy();
        if (flaw(played) != null) {
            return IMPOSSIBLE;
        }
        change();
        int rounds = text.length() - text.replace(";", "").length();
        now = played;
        return rounds;
    }
}
