/** Hunts in the dark: checks by which a hare that is not seen is caught for sure. */
public final class BlindHunts {
    public static final int INVALID_ARGUMENT = -1000001;
    public static final int NOT_POSSIBLE = -1000002;
    public static final int LIMIT_REACHED = -1000003;
    public static final int NOT_FOUND = -1000004;

    private static final int MOST_PLACES = 7;
    private static final int MOST_SETS = 128;
    private static final int COLORS = 4;
    private static final int SIGNALS = 4;
    /** The row of the tables that holds all signals together; it stands behind those of the signals. */
    private static final int ALL_SIGNALS = 4;

    private static final int HARE = 0;
    private static final int SIGNAL_KIND = 1;
    private static final int BUDGET = 2;
    private static final int SETTINGS = 3;

    private static final int RESTLESS = 0;
    private static final int LEAPING = 2;
    private static final int SHY = 3;

    private static final int HEAR_NOTHING = 0;
    private static final int HEAR_COLOR = 1;
    private static final int HEAR_MOVE = 2;

    private static final int MOST_STATES = 4;
    private static final int ROUNDS_TOLD = 8;
    private static final int MOST_SIGNS = 60;
    private static final int WAYS_MOVES = 40;
    private static final int MET_MOVES = 15;
    private static final long MOST_WAYS = 9223372036854775807L;

    private static final int NOT_SURE = -1;
    private static final int NO_PLACE = -1;
    private static final long TOO_MANY = -1L;

    private static final int NO_FAULT = 0;
    private static final int FAULT_OF_FORM = 1;
    private static final int FAULT_OF_PLACES = 2;
    private static final int FAULT_OF_ROUND = 3;

    private final State now = new State();
    private final State trial = new State();
    private final State[] past = new State[MOST_STATES];
    private int kept;
    private final RoundText text = new RoundText();

    // The tables hang on the country and the settings alone, so they are kept until one of these changes.
    private final Moves tables = new Moves();
    private final Hunt hearing = new Hunt(0, SIGNALS - 1);
    private final Hunt unhearing = new Hunt(ALL_SIGNALS, ALL_SIGNALS);
    private boolean tablesStand;
    private boolean hearingStands;
    private boolean unhearingStands;

    private final Walks walks = new Walks();
    private final boolean[] comes = new boolean[MOST_SETS];

    public BlindHunts() {
        for (int i = 0; i < MOST_STATES; i++) {
            past[i] = new State();
        }
    }

    // ---- the country

    public int place(int color) {
        if (!isWithin(color, 0, COLORS - 1)) {
            return INVALID_ARGUMENT;
        }
        if (now.places >= MOST_PLACES) {
            return LIMIT_REACHED;
        }
        record();
        forgetTables();
        return now.addPlace(color);
    }

    public int road(int one, int other) {
        if (!arePlaces(one, other)) {
            return INVALID_ARGUMENT;
        }
        if (now.hasRoad(one, other)) {
            return NOT_POSSIBLE;
        }
        record();
        forgetTables();
        now.addRoad(one, other);
        return now.countRoads(now.roads);
    }

    public int shut(int one, int other, int is) {
        if (!arePlaces(one, other) || !isWithin(is, 0, 1)) {
            return INVALID_ARGUMENT;
        }
        boolean shutNow = !now.hasOpenRoad(one, other);
        if (!now.hasRoad(one, other) || shutNow == (is == 1)) {
            return NOT_POSSIBLE;
        }
        record();
        forgetTables();
        now.turnRoad(one, other);
        return now.countRoads(now.open);
    }

    public int set(int what, int value) {
        if (!isSetting(what, value)) {
            return INVALID_ARGUMENT;
        }
        record();
        forgetTables();
        int before = now.settings[what];
        now.settings[what] = value;
        return before;
    }

    // ---- rounds

    public int believe(int belief) {
        if (!isSet(belief)) {
            return INVALID_ARGUMENT;
        }
        record();
        now.belief = belief;
        now.rounds = 0;
        return Integer.bitCount(belief);
    }

    public int check(int places, int signal) {
        if (!isSet(places) || !isWithin(signal, 0, SIGNALS - 1)) {
            return INVALID_ARGUMENT;
        }
        if (Integer.bitCount(places) > now.settings[BUDGET]) {
            return INVALID_ARGUMENT;
        }
        Moves moves = standingMoves();
        if (!now.canBeRound(moves, places, signal)) {
            return NOT_POSSIBLE;
        }
        record();
        now.addRound(moves, places, signal);
        return Integer.bitCount(now.belief);
    }

    public int placeOf(int place, int what) {
        if (!isPlace(place)) {
            return INVALID_ARGUMENT;
        }
        switch (what) {
            case 0:
                return now.colors[place];
            case 1:
                return now.roads[place];
            case 2:
                return now.open[place];
            case 3:
                return now.reach(place);
            case 4:
                return (now.belief >> place) & 1;
            default:
                return INVALID_ARGUMENT;
        }
    }

    public int roundOf(int round, int what) {
        if (!isWithin(round, 0, ROUNDS_TOLD - 1) || !isWithin(what, 0, 2)) {
            return INVALID_ARGUMENT;
        }
        if (round >= now.rounds) {
            return NOT_FOUND;
        }
        int at = State.rowOfRound(now.rounds - 1 - round);
        if (what == 0) {
            return now.checkedPlaces[at];
        }
        return what == 1 ? now.toldSignals[at] : now.laterBeliefs[at];
    }

    // ---- what would be

    public int behind(int belief, int places, int signal) {
        if (!isSet(belief) || !isSet(places) || !isWithin(signal, -1, SIGNALS - 1)) {
            return INVALID_ARGUMENT;
        }
        return standingMoves().after(belief, places, signal < 0 ? ALL_SIGNALS : signal);
    }

    public int sure(int belief, int what) {
        if (!isSet(belief) || !isWithin(what, 0, 1)) {
            return INVALID_ARGUMENT;
        }
        Hunt hunt = standingHearing();
        if (hunt.needs[belief] == NOT_SURE) {
            return NOT_FOUND;
        }
        return what == 0 ? hunt.needs[belief] : hunt.best[belief];
    }

    public int deaf(int belief) {
        if (!isSet(belief)) {
            return INVALID_ARGUMENT;
        }
        int needs = standingUnhearing().needs[belief];
        return needs == NOT_SURE ? NOT_FOUND : needs;
    }

    public int memory(int belief) {
        if (!isSet(belief)) {
            return INVALID_ARGUMENT;
        }
        Hunt hunt = standingHearing();
        if (hunt.needs[belief] == NOT_SURE) {
            return NOT_FOUND;
        }
        return countComing(hunt, belief);
    }

    public int beliefs(int what) {
        switch (what) {
            case 0:
                return now.sets() - 1;
            case 1:
                return standingHearing().countSure(now.sets());
            case 2:
                return standingHearing().mostNeeded(now.sets());
            case 3:
                return standingHearing().hardestBelief(now.sets());
            case 4:
                return standingUnhearing().countSure(now.sets());
            default:
                return INVALID_ARGUMENT;
        }
    }

    public int dangers(int belief) {
        if (!isSet(belief)) {
            return INVALID_ARGUMENT;
        }
        Hunt hunt = standingHearing();
        if (hunt.needs[belief] == NOT_SURE) {
            return NOT_POSSIBLE;
        }
        int found = 0;
        for (int place = 0; place < now.places; place++) {
            int added = 1 << place;
            if (hunt.needs[belief | added] == NOT_SURE) {
                found |= added;
            }
        }
        return found;
    }

    public long ways(int moves, int place) {
        if (!isWithin(moves, 0, WAYS_MOVES) || !isPlace(place)) {
            return INVALID_ARGUMENT;
        }
        walks.walk(now, moves, NO_PLACE);
        long found = walks.ending[place];
        return found == TOO_MANY ? LIMIT_REACHED : found;
    }

    public long met(int moves, int place, int part) {
        if (!isWithin(moves, 0, MET_MOVES) || !isPlace(place) || !isWithin(part, 0, 1)) {
            return INVALID_ARGUMENT;
        }
        walks.walk(now, moves, NO_PLACE);
        long all = walks.total(now.places);
        if (part == 1) {
            return all;
        }
        walks.walk(now, moves, place);
        return all - walks.total(now.places);
    }

    public int count(int what) {
        switch (what) {
            case 0:
                return now.places;
            case 1:
                return now.countRoads(now.roads);
            case 2:
                return now.countRoads(now.open);
            case 3:
                return now.belief;
            case 4:
                return now.rounds;
            case 5:
                return now.isCaught() ? 1 : 0;
            case 6:
                return kept;
            case 7:
                return text.length;
            default:
                return isWithin(what, 20, 22) ? now.settings[what - 20] : INVALID_ARGUMENT;
        }
    }

    public int undo() {
        if (kept <= 0) {
            return NOT_POSSIBLE;
        }
        kept--;
        now.takeFrom(past[kept]);
        forgetTables();
        return kept;
    }

    // ---- texts

    public int type(int character) {
        if (!isWithin(character, 32, 126)) {
            return INVALID_ARGUMENT;
        }
        if (text.length >= MOST_SIGNS) {
            return LIMIT_REACHED;
        }
        text.append((char) character);
        return text.length;
    }

    public int clearText() {
        int before = text.length;
        text.length = 0;
        return before;
    }

    public int fault(int what) {
        if (!isWithin(what, 0, 1)) {
            return INVALID_ARGUMENT;
        }
        int reason = tryText();
        if (reason == NO_FAULT) {
            return NOT_FOUND;
        }
        return what == 0 ? text.start : reason;
    }

    public int play() {
        if (tryText() != NO_FAULT) {
            return NOT_POSSIBLE;
        }
        record();
        now.takeFrom(trial);
        return text.roundsRead;
    }

    // ---- tests of arguments

    private static boolean isWithin(int value, int low, int high) {
        return value >= low && value <= high;
    }

    private boolean isPlace(int place) {
        return isWithin(place, 0, now.places - 1);
    }

    private boolean arePlaces(int one, int other) {
        return isPlace(one) && isPlace(other) && one != other;
    }

    private boolean isSet(int set) {
        return isWithin(set, 0, now.sets() - 1);
    }

    private static boolean isSetting(int what, int value) {
        if (!isWithin(what, 0, SETTINGS - 1)) {
            return false;
        }
        return what == BUDGET ? isWithin(value, 1, 2) : isWithin(value, 0, 3);
    }

    // ---- the history

    private void record() {
        if (kept >= MOST_STATES) {
            dropOldest();
        }
        past[kept].takeFrom(now);
        kept++;
    }

    private void dropOldest() {
        State oldest = past[0];
        for (int i = 1; i < MOST_STATES; i++) {
            past[i - 1] = past[i];
        }
        // The dropped state's rows are used again for the next one, so that no call makes objects.
        past[MOST_STATES - 1] = oldest;
        kept = MOST_STATES - 1;
    }

    // ---- the tables

    private void forgetTables() {
        tablesStand = false;
        hearingStands = false;
        unhearingStands = false;
    }

    private Moves standingMoves() {
        if (!tablesStand) {
            tables.build(now);
            tablesStand = true;
        }
        return tables;
    }

    private Hunt standingHearing() {
        if (!hearingStands) {
            hearing.solve(standingMoves());
            hearingStands = true;
        }
        return hearing;
    }

    private Hunt standingUnhearing() {
        if (!unhearingStands) {
            unhearing.solve(standingMoves());
            unhearingStands = true;
        }
        return unhearing;
    }

    private int countComing(Hunt hunt, int belief) {
        for (int set = 0; set < MOST_SETS; set++) {
            comes[set] = false;
        }
        comes[belief] = true;
        int found = 0;
        // A best check leads to beliefs that need less rounds: none comes after those of its level are counted.
        for (int level = hunt.needs[belief]; level > 0; level--) {
            for (int set = 1; set < now.sets(); set++) {
                if (comes[set] && hunt.needs[set] == level) {
                    found++;
                    markNext(set, hunt.best[set]);
                }
            }
        }
        return found;
    }

    private void markNext(int belief, int places) {
        for (int signal = 0; signal < SIGNALS; signal++) {
            comes[tables.after(belief, places, signal)] = true;
        }
    }

    // ---- rounds of the text

    /** Makes the text's rounds on the trial state, up to the first one that is not possible; returns its reason. */
    private int tryText() {
        trial.takeFrom(now);
        text.start = 0;
        text.roundsRead = 0;
        Moves moves = standingMoves();
        int reason = NO_FAULT;
        for (int i = 0; i < MOST_SIGNS && reason == NO_FAULT && text.start < text.length; i++) {
            reason = tryRound(moves);
        }
        return reason;
    }

    private int tryRound(Moves moves) {
        if (!text.readRound()) {
            return FAULT_OF_FORM;
        }
        if (!text.hasGoodPlaces(trial.places, trial.settings[BUDGET])) {
            return FAULT_OF_PLACES;
        }
        int places = text.placesRead();
        if (text.signal >= SIGNALS || !trial.canBeRound(moves, places, text.signal)) {
            return FAULT_OF_ROUND;
        }
        trial.addRound(moves, places, text.signal);
        text.goOn();
        return NO_FAULT;
    }

    /** Everything that the history keeps. */
    private static final class State {
        int places;
        final int[] colors = new int[MOST_PLACES];
        final int[] roads = new int[MOST_PLACES];
        final int[] open = new int[MOST_PLACES];
        final int[] settings = new int[SETTINGS];
        int belief;
        int rounds;
        final int[] checkedPlaces = new int[ROUNDS_TOLD];
        final int[] toldSignals = new int[ROUNDS_TOLD];
        final int[] laterBeliefs = new int[ROUNDS_TOLD];

        State() {
            settings[BUDGET] = 1;
        }

        void takeFrom(State other) {
            places = other.places;
            belief = other.belief;
            rounds = other.rounds;
            for (int i = 0; i < MOST_PLACES; i++) {
                colors[i] = other.colors[i];
                roads[i] = other.roads[i];
                open[i] = other.open[i];
            }
            for (int i = 0; i < SETTINGS; i++) {
                settings[i] = other.settings[i];
            }
            for (int i = 0; i < ROUNDS_TOLD; i++) {
                checkedPlaces[i] = other.checkedPlaces[i];
                toldSignals[i] = other.toldSignals[i];
                laterBeliefs[i] = other.laterBeliefs[i];
            }
        }

        int sets() {
            return 1 << places;
        }

        int addPlace(int color) {
            colors[places] = color;
            places++;
            return places - 1;
        }

        boolean hasRoad(int one, int other) {
            return ((roads[one] >> other) & 1) == 1;
        }

        boolean hasOpenRoad(int one, int other) {
            return ((open[one] >> other) & 1) == 1;
        }

        void addRoad(int one, int other) {
            roads[one] |= 1 << other;
            roads[other] |= 1 << one;
            turnRoad(one, other);
        }

        void turnRoad(int one, int other) {
            open[one] ^= 1 << other;
            open[other] ^= 1 << one;
        }

        int countRoads(int[] from) {
            int ends = 0;
            for (int i = 0; i < places; i++) {
                ends += Integer.bitCount(from[i]);
            }
            return ends / 2;
        }

        /** The places at which a hare from there can be behind its move, if nothing is checked. */
        int reach(int place) {
            int near = open[place];
            int self = 1 << place;
            int kind = settings[HARE];
            if (near == 0) {
                return self;
            }
            if (kind == RESTLESS) {
                return near;
            }
            if (kind != LEAPING) {
                return near | self;
            }
            int far = near;
            for (int i = 0; i < places; i++) {
                if (((near >> i) & 1) == 1) {
                    far |= open[i];
                }
            }
            return far;
        }

        int signalOf(int from, int to) {
            switch (settings[SIGNAL_KIND]) {
                case HEAR_NOTHING:
                    return 0;
                case HEAR_COLOR:
                    return colors[to];
                case HEAR_MOVE:
                    return from == to ? 0 : 1;
                default:
                    return Math.min(Integer.bitCount(open[to]), SIGNALS - 1);
            }
        }

        boolean isCaught() {
            // A round by which the hare is not caught leaves a place to be believed in.
            return rounds > 0 && belief == 0;
        }

        static int rowOfRound(int round) {
            return round & (ROUNDS_TOLD - 1);
        }

        boolean canBeRound(Moves moves, int checked, int signal) {
            if (belief == 0) {
                return false;
            }
            boolean catches = (belief & ~checked) == 0;
            return catches || moves.after(belief, checked, signal) != 0;
        }

        void addRound(Moves moves, int checked, int signal) {
            belief = moves.after(belief, checked, signal);
            int at = rowOfRound(rounds);
            checkedPlaces[at] = checked;
            toldSignals[at] = signal;
            laterBeliefs[at] = belief;
            rounds++;
        }
    }

    /** Where the hare can have gone, by the signal that is heard, for each set of places it can have gone from. */
    private static final class Moves {
        private final int[][] gone = new int[SIGNALS + 1][MOST_SETS];
        private final int[] targets = new int[SIGNALS + 1];
        final int[] checks = new int[MOST_SETS];
        int checkCount;
        int sets;
        private boolean shy;

        void build(State state) {
            sets = state.sets();
            shy = state.settings[HARE] == SHY;
            for (int place = 0; place < state.places; place++) {
                buildPlace(state, place);
            }
            listChecks(state.settings[BUDGET]);
        }

        private void buildPlace(State state, int place) {
            int reach = state.reach(place);
            for (int signal = 0; signal < SIGNALS; signal++) {
                targets[signal] = 0;
            }
            targets[ALL_SIGNALS] = reach;
            for (int to = 0; to < state.places; to++) {
                if (((reach >> to) & 1) == 1) {
                    targets[state.signalOf(place, to)] |= 1 << to;
                }
            }
            for (int signal = 0; signal <= ALL_SIGNALS; signal++) {
                spread(signal, 1 << place);
            }
        }

        /** Tells the sets whose highest place is the given one, from those of the lower places; the empty one stays 0. */
        private void spread(int signal, int self) {
            for (int lower = 0; lower < self; lower++) {
                gone[signal][lower | self] = gone[signal][lower] | targets[signal];
            }
        }

        private void listChecks(int budget) {
            checkCount = 0;
            for (int places = 0; places < sets; places++) {
                if (Integer.bitCount(places) <= budget) {
                    checks[checkCount] = places;
                    checkCount++;
                }
            }
        }

        /** The belief behind a round. */
        int after(int belief, int places, int signal) {
            int later = gone[signal][belief & ~places];
            // A shy hare could always stay, so only its goals are fewer.
            return shy ? later & ~places : later;
        }
    }

    /** The rounds that each belief needs and its best check, by the rows of the tables that the hunter tells apart. */
    private static final class Hunt {
        final int[] needs = new int[MOST_SETS];
        final int[] best = new int[MOST_SETS];
        private final int firstRow;
        private final int lastRow;

        Hunt(int firstRow, int lastRow) {
            this.firstRow = firstRow;
            this.lastRow = lastRow;
        }

        void solve(Moves moves) {
            for (int set = 0; set < MOST_SETS; set++) {
                needs[set] = NOT_SURE;
                best[set] = 0;
            }
            needs[0] = 0;
            boolean more = true;
            // What needs a number of rounds leads to what needs one less: behind an empty level there is none.
            for (int level = 1; level < MOST_SETS && more; level++) {
                more = solveLevel(moves, level);
            }
        }

        private boolean solveLevel(Moves moves, int level) {
            boolean any = false;
            for (int set = 1; set < moves.sets; set++) {
                if (needs[set] == NOT_SURE && partsAreSure(set) && settle(moves, set, level)) {
                    any = true;
                }
            }
            return any;
        }

        /** Checks that catch the hare for sure do so for every part of the belief: a part that is not sure ends it. */
        private boolean partsAreSure(int belief) {
            for (int place = 0; place < MOST_PLACES; place++) {
                boolean believed = ((belief >> place) & 1) == 1;
                if (believed && needs[belief & ~(1 << place)] == NOT_SURE) {
                    return false;
                }
            }
            return true;
        }

        private boolean settle(Moves moves, int belief, int level) {
            for (int i = 0; i < moves.checkCount; i++) {
                if (leadsLower(moves, belief, moves.checks[i], level)) {
                    needs[belief] = level;
                    best[belief] = moves.checks[i];
                    return true;
                }
            }
            return false;
        }

        private boolean leadsLower(Moves moves, int belief, int places, int level) {
            for (int row = firstRow; row <= lastRow; row++) {
                int needed = needs[moves.after(belief, places, row)];
                if (needed == NOT_SURE || needed >= level) {
                    return false;
                }
            }
            return true;
        }

        int countSure(int sets) {
            int found = 0;
            for (int set = 1; set < sets; set++) {
                if (needs[set] != NOT_SURE) {
                    found++;
                }
            }
            return found;
        }

        int hardestBelief(int sets) {
            int most = mostNeeded(sets);
            for (int set = 1; set < sets; set++) {
                if (needs[set] == most) {
                    return set;
                }
            }
            return NOT_FOUND;
        }

        int mostNeeded(int sets) {
            int most = 0;
            for (int set = 1; set < sets; set++) {
                most = Math.max(most, needs[set]);
            }
            return most;
        }
    }

    /** Ways of the hare, counted by the place at which they end. */
    private static final class Walks {
        long[] ending = new long[MOST_PLACES];
        private long[] before = new long[MOST_PLACES];

        /** Counts the ways that never come to the shunned place. */
        void walk(State state, int moves, int shunned) {
            for (int place = 0; place < state.places; place++) {
                boolean starts = ((state.belief >> place) & 1) == 1;
                ending[place] = starts && place != shunned ? 1 : 0;
            }
            for (int i = 0; i < moves; i++) {
                step(state, shunned);
            }
        }

        private void step(State state, int shunned) {
            long[] last = ending;
            ending = before;
            before = last;
            for (int to = 0; to < state.places; to++) {
                ending[to] = 0;
            }
            for (int from = 0; from < state.places; from++) {
                int reach = state.reach(from);
                for (int to = 0; to < state.places; to++) {
                    if (((reach >> to) & 1) == 1 && to != shunned) {
                        ending[to] = sum(ending[to], before[from]);
                    }
                }
            }
        }

        private static long sum(long one, long other) {
            if (one == TOO_MANY || other == TOO_MANY || one > MOST_WAYS - other) {
                return TOO_MANY;
            }
            return one + other;
        }

        long total(int places) {
            long all = 0;
            for (int place = 0; place < places; place++) {
                all = sum(all, ending[place]);
            }
            return all;
        }
    }

    /** The text, and the round of it that was read last. */
    private static final class RoundText {
        private final char[] signs = new char[MOST_SIGNS];
        int length;
        int start;
        int roundsRead;
        int signal;
        private int end;
        private int digits;
        private int one;
        private int other;

        void append(char sign) {
            signs[length] = sign;
            length++;
        }

        /** Reads the round at the start; false if none of the right form is there. */
        boolean readRound() {
            digits = 0;
            one = NO_PLACE;
            other = NO_PLACE;
            int at = start;
            if (isDigit(at)) {
                one = digitAt(at);
                digits++;
                at++;
            }
            if (isDigit(at)) {
                other = digitAt(at);
                digits++;
                at++;
            }
            if (!isSign(at, ':') || !isDigit(at + 1) || !isSign(at + 2, ';')) {
                return false;
            }
            signal = digitAt(at + 1);
            end = at + 3;
            return true;
        }

        boolean hasGoodPlaces(int places, int budget) {
            boolean known = one < places && other < places;
            boolean twice = digits == 2 && one == other;
            return known && !twice && digits <= budget;
        }

        int placesRead() {
            int set = one == NO_PLACE ? 0 : 1 << one;
            return other == NO_PLACE ? set : set | 1 << other;
        }

        void goOn() {
            start = end;
            roundsRead++;
        }

        private boolean isSign(int at, char sign) {
            return at >= 0 && at < length && signs[at] == sign;
        }

        private boolean isDigit(int at) {
            return at >= 0 && at < length && signs[at] >= '0' && signs[at] <= '9';
        }

        private int digitAt(int at) {
            return isDigit(at) ? signs[at] - '0' : 0;
        }
    }
}
