import java.util.Arrays;

/**
 * Houses in which a wearer of a cap is seen only by what it moves.
 * Inside, sets of cells are bits of an int (bit c is cell c), and so is a place: a set of one cell.
 */
public final class CapHouse {
    public static final int UNKNOWN = -1, OUTSIDE = -2, STATE = -3, FULL = -4, NO = -5, NONE = -6;
    public static final long GONE = -1000000000000000000L;

    private static final int FINE = 0;
    private static final int MOST_SIDE = 4;
    private static final int MOST_CELLS = 16;
    private static final int MOST_SIGNS = 40;
    private static final int FIRST_SIGN = 33;
    private static final int LAST_SIGN = 126;
    private static final int MOST_WATCHERS = 4;
    private static final int MOST_EARS = 6;
    private static final int DIRECTIONS = 4;
    private static final int STAYING = 4;
    private static final int STEPS = 5;
    private static final int MOST_STEPS_TOLD = 8;
    private static final int MOST_GRASS_MINUTES = 12;
    private static final int MOST_SEED = 9999;
    private static final int LONGEST_NIGHT = 99;
    private static final String HOUSE_SIGNS = ".gcd#";
    private static final String WALK_SIGNS = "nesw-";

    private final Pad pad;
    private final House now;
    private final Image firstImage;
    private final Image secondImage;
    private final Wearer wearer;
    private final Verdict verdict;
    private final Ways ways;
    private final Whereabouts whereabouts;

    public CapHouse() {
        pad = new Pad();
        now = new House();
        firstImage = new Image();
        secondImage = new Image();
        wearer = new Wearer();
        verdict = new Verdict();
        ways = new Ways();
        whereabouts = new Whereabouts();
    }

    // ---- 1 houses, watchers

    public int house(int rows, int columns) {
        if (!within(rows, 1, MOST_SIDE) || !within(columns, 1, MOST_SIDE)) {
            return OUTSIDE;
        }
        now.layOut(rows, columns);
        return now.cells();
    }

    public int say(int sign) {
        if (!within(sign, FIRST_SIGN, LAST_SIGN)) {
            return OUTSIDE;
        }
        return pad.add((char) sign) ? pad.length : FULL;
    }

    public int wipe() {
        return pad.clear();
    }

    public int fault(int how) {
        if (how == 0) {
            return pad.houseFault(now.cells());
        }
        return how == 1 ? pad.walkFault() : OUTSIDE;
    }

    public int build() {
        if (pad.houseFault(now.cells()) != NONE) {
            return NO;
        }
        if (pad.isAll('#')) {
            return STATE;
        }
        now.furnish(pad);
        pad.clear();
        return Integer.bitCount(now.open());
    }

    public int cell(int cell) {
        return now.isCell(cell) ? now.signOf(cell) : UNKNOWN;
    }

    public int place(int which, int cell) {
        if (!now.isCell(cell)) {
            return UNKNOWN;
        }
        if (!within(which, 0, 1)) {
            return OUTSIDE;
        }
        if (has(now.walls, cell)) {
            return STATE;
        }
        return which == 0 ? now.moveDoor(cell) : now.moveThing(cell);
    }

    public int watch(int cell, int looking, boolean dog) {
        if (!now.isCell(cell)) {
            return UNKNOWN;
        }
        if (!within(looking, 0, DIRECTIONS - 1)) {
            return OUTSIDE;
        }
        if (has(now.walls, cell)) {
            return STATE;
        }
        return now.watchers.add(cell, looking, dog) ? now.watchers.count : FULL;
    }

    public int dismiss() {
        return now.watchers.clear();
    }

    public int ears(int v) {
        if (!within(v, 0, MOST_EARS)) {
            return OUTSIDE;
        }
        int before = now.earshot;
        now.earshot = v;
        return before;
    }

    // ---- 2 walks

    public int judge(int what) {
        if (!within(what, 0, 5)) {
            return OUTSIDE;
        }
        int refusal = followWalk();
        if (refusal == NO) {
            return NO;
        }
        if (what == 0) {
            return verdict.blocked;
        }
        return refusal == STATE ? STATE : verdict.answer(what);
    }

    public int sees(int watcher) {
        return now.watchers.isOne(watcher) ? now.seenBy(watcher) : UNKNOWN;
    }

    public int bare() {
        return now.bareCells();
    }

    /** Follows the walk on the pad into the verdict: FINE, NO or STATE. */
    private int followWalk() {
        if (pad.walkFault() != NONE) {
            return NO;
        }
        verdict.follow(now, pad, wearer);
        return verdict.blocked == NONE ? FINE : STATE;
    }

    // ---- 3 ways, flour, posts

    public int safe(int i) {
        int door = bit(now.door);
        int thing = bit(now.thing);
        int allowed = now.bareCells() | door;
        int there = ways.measure(now, door, thing, allowed);
        if (there == NONE) {
            return NONE;
        }
        if (i == -1) {
            return 2 * there;
        }
        if (i < 0 || i >= 2 * there) {
            return NONE;
        }
        int step = i < there
            ? ways.stepOnWay(now, door, thing, allowed, i)
            : ways.stepOnWay(now, thing, door, allowed, i - there);
        return signOfStep(step);
    }

    public int least(int what) {
        if (!within(what, 0, 1)) {
            return OUTSIDE;
        }
        int there = ways.measure(now, bit(now.thing), bit(now.door), now.open());
        if (there == NONE) {
            return NONE;
        }
        return what == 1 ? 2 * there : ways.fewestShowingSteps(now, there);
    }

    public int flour(int what) {
        if (!within(what, 0, 1)) {
            return OUTSIDE;
        }
        int set = ways.fewestCut(now);
        if (set == NONE) {
            return NONE;
        }
        return what == 0 ? Integer.bitCount(set) : set;
    }

    public int post(int what) {
        if (!within(what, 0, 1)) {
            return OUTSIDE;
        }
        if (now.watchers.isFull()) {
            return FULL;
        }
        int bare = now.bareCells();
        int best = bestPost(bare);
        return what == 0 ? best : bareWith(bare, best);
    }

    /** 4 times the cell and how it looks, the least of those that leave the fewest cells bare. */
    private int bestPost(int bare) {
        int best = NONE;
        int fewest = MOST_CELLS + 1;
        for (int post = 0; post < DIRECTIONS * now.cells(); post++) {
            int left = has(now.walls, post / DIRECTIONS) ? fewest : bareWith(bare, post);
            if (left < fewest) {
                fewest = left;
                best = post;
            }
        }
        return best;
    }

    private int bareWith(int bare, int post) {
        return Integer.bitCount(bare & ~now.spoiledFrom(post / DIRECTIONS, post % DIRECTIONS, false));
    }

    public int meet(int steps, int n) {
        if (!within(n, 0, MOST_STEPS_TOLD) || !within(steps, 0, power(STEPS, n) - 1)) {
            return OUTSIDE;
        }
        int refusal = followWalk();
        return refusal == FINE ? firstMeeting(steps, n) : refusal;
    }

    private int firstMeeting(int steps, int n) {
        int one = bit(now.door);
        int other = bit(now.thing);
        int minutes = Math.min(n, pad.length);
        for (int minute = 0; minute < minutes; minute++) {
            int oneThen = now.stepOrStay(one, pad.stepAt(minute));
            int otherThen = now.stepOrStay(other, stepTold(steps, n, minute));
            if (oneThen == otherThen || oneThen == other && otherThen == one) {
                return minute;
            }
            one = oneThen;
            other = otherThen;
        }
        return NONE;
    }

    /** The digit to five at a place of n, the highest at place 0. */
    private static int stepTold(int steps, int n, int place) {
        int rest = steps;
        for (int behind = n - 1; behind > place; behind--) {
            rest /= STEPS;
        }
        return rest % STEPS;
    }

    // ---- 4 where, wind, nights

    public int where(int shown, int n, int what) {
        if (!within(n, 0, MOST_STEPS_TOLD) || !within(shown, 0, power(2, n) - 1) || !within(what, 0, 1)) {
            return OUTSIDE;
        }
        int bare = now.bareCells();
        whereabouts.begin(now.door);
        for (int minute = 0; minute < n; minute++) {
            whereabouts.passMinute(now, has(shown, minute) ? now.open() & ~bare : bare);
        }
        return what == 0 ? whereabouts.possibleCells() : whereabouts.walks();
    }

    public long wind(int w, int part) {
        if (!within(w, 0, 10) || !within(part, 0, 1)) {
            return GONE + OUTSIDE;
        }
        int refusal = followWalk();
        if (refusal != FINE) {
            return GONE + refusal;
        }
        if (verdict.grassMinutes > MOST_GRASS_MINUTES) {
            return GONE + FULL;
        }
        if (verdict.shownMinutes > verdict.grassMinutes) {
            return part == 0 ? 0 : 1;
        }
        return powerOfTenths(w, verdict.grassMinutes, part);
    }

    /** A part of w tenths to a power, in lowest terms: they stay so when both parts are multiplied. */
    private static long powerOfTenths(int w, int exponent, int part) {
        for (int common = 10; common > 1; common--) {
            if (w % common == 0 && 10 % common == 0) {
                return longPower(part == 0 ? w / common : 10 / common, exponent);
            }
        }
        return longPower(part == 0 ? w : 10, exponent);
    }

    public int night(int seed, int n, int what) {
        if (!within(seed, 0, MOST_SEED) || !within(n, 0, LONGEST_NIGHT) || !within(what, 0, 2)) {
            return OUTSIDE;
        }
        int x = seed;
        int shownMinutes = 0;
        wearer.begin(now);
        for (int minute = 0; minute < n; minute++) {
            x = (75 * x + 74) % 65537;
            wearer.take(now, x % STEPS);
            if (wearer.firstShownTo(now, false) != NONE) {
                shownMinutes++;
            }
        }
        if (what == 0) {
            return shownMinutes;
        }
        return what == 1 ? cellOf(wearer.here) : Integer.bitCount(wearer.been);
    }

    public int image(int n) {
        if (!within(n, 0, 1)) {
            return OUTSIDE;
        }
        Image image = imageOf(n);
        image.house.copyFrom(now);
        image.kept = true;
        return 1;
    }

    public int restore(int n) {
        if (!within(n, 0, 1)) {
            return OUTSIDE;
        }
        Image image = imageOf(n);
        if (!image.kept) {
            return STATE;
        }
        now.copyFrom(image.house);
        return 1;
    }

    private Image imageOf(int n) {
        return n == 0 ? firstImage : secondImage;
    }

    public int told(int what) {
        switch (what) {
            case 0: return pad.length;
            case 1: return now.rows;
            case 2: return now.columns;
            case 3: return now.door;
            case 4: return now.thing;
            case 5: return now.watchers.count;
            case 6: return now.earshot;
            default: return what < 10 ? OUTSIDE : toldOfWatcher(what / 10 - 1, what % 10);
        }
    }

    private int toldOfWatcher(int watcher, int what) {
        if (!now.watchers.isOne(watcher)) {
            return OUTSIDE;
        }
        switch (what) {
            case 0: return now.watchers.cellOfOne(watcher);
            case 1: return now.watchers.lookingOf(watcher);
            case 2: return now.watchers.hasDog(watcher) ? 1 : 0;
            default: return OUTSIDE;
        }
    }

    // ---- numbers and bits

    private static boolean within(int number, int least, int most) {
        return number >= least && number <= most;
    }

    private static int bit(int cell) {
        return 1 << cell;
    }

    private static boolean has(int set, int cell) {
        return (set >>> cell & 1) != 0;
    }

    /** The cell of a set of one cell. */
    private static int cellOf(int place) {
        return Integer.bitCount(place - 1);
    }

    private static int power(int base, int exponent) {
        return (int) longPower(base, exponent);
    }

    private static long longPower(int base, int exponent) {
        long product = 1;
        for (int i = 0; i < exponent; i++) {
            product *= base;
        }
        return product;
    }

    /** The i-th number of a row, 0 where the row has none. */
    private static int at(int[] row, int i) {
        return i >= 0 && i < row.length ? row[i] : 0;
    }

    private static void put(int[] row, int i, int number) {
        if (i >= 0 && i < row.length) {
            row[i] = number;
        }
    }

    private static int signOfStep(int step) {
        return within(step, 0, WALK_SIGNS.length() - 1) ? WALK_SIGNS.charAt(step) : NONE;
    }

    private static final class Pad {
        final char[] signs = new char[MOST_SIGNS];
        int length;

        boolean add(char sign) {
            if (length < 0 || length >= signs.length) {
                return false;
            }
            signs[length] = sign;
            length++;
            return true;
        }

        int clear() {
            int before = length;
            length = 0;
            return before;
        }

        char signAt(int i) {
            return i >= 0 && i < length && i < signs.length ? signs[i] : ' ';
        }

        /** The step that a sign of a walk tells, as a digit to five. */
        int stepAt(int i) {
            return WALK_SIGNS.indexOf(signAt(i));
        }

        boolean isAll(char sign) {
            for (int i = 0; i < length; i++) {
                if (signAt(i) != sign) {
                    return false;
                }
            }
            return true;
        }

        int houseFault(int cells) {
            int wrong = firstWrong(HOUSE_SIGNS, cells);
            if (wrong != NONE) {
                return wrong;
            }
            return length < cells ? length : NONE;
        }

        int walkFault() {
            return firstWrong(WALK_SIGNS, MOST_SIGNS);
        }

        /** The first place with a sign that is none of the known ones, or beyond the most signs. */
        private int firstWrong(String known, int most) {
            for (int i = 0; i < length; i++) {
                if (i >= most || known.indexOf(signAt(i)) < 0) {
                    return i;
                }
            }
            return NONE;
        }
    }

    /** Who watches a house: where, looking how, with a dog or not. */
    private static final class Watchers {
        final int[] places = new int[MOST_WATCHERS];
        final int[] lookings = new int[MOST_WATCHERS];
        final int[] dogs = new int[MOST_WATCHERS];
        int count;

        boolean isFull() {
            return count >= MOST_WATCHERS;
        }

        boolean isOne(int watcher) {
            return watcher >= 0 && watcher < count;
        }

        boolean add(int cell, int looking, boolean dog) {
            if (isFull()) {
                return false;
            }
            put(places, count, cell);
            put(lookings, count, looking);
            put(dogs, count, dog ? 1 : 0);
            count++;
            return true;
        }

        int clear() {
            int before = count;
            count = 0;
            return before;
        }

        int cellOfOne(int watcher) {
            return at(places, watcher);
        }

        int lookingOf(int watcher) {
            return at(lookings, watcher);
        }

        boolean hasDog(int watcher) {
            return at(dogs, watcher) == 1;
        }

        void copyFrom(Watchers other) {
            clear();
            for (int i = 0; i < other.count; i++) {
                add(other.cellOfOne(i), other.lookingOf(i), other.hasDog(i));
            }
        }
    }

    /** All that an image keeps: the cells, the door, the thing, the watchers and their ears. */
    private static final class House {
        int rows;
        int columns;
        int all;
        int firstColumn;
        int lastColumn;
        int walls;
        int grass;
        int boards;
        int dust;
        int door;
        int thing;
        int earshot;
        final Watchers watchers = new Watchers();

        House() {
            earshot = 1;
            layOut(3, 3);
        }

        int cells() {
            return rows * columns;
        }

        boolean isCell(int cell) {
            return cell >= 0 && cell < cells();
        }

        int open() {
            return all & ~walls;
        }

        void layOut(int newRows, int newColumns) {
            rows = newRows;
            columns = newColumns;
            all = bit(cells()) - 1;
            firstColumn = 0;
            for (int row = 0; row < rows; row++) {
                firstColumn |= bit(row * columns);
            }
            lastColumn = firstColumn << (columns - 1);
            clearCells();
            door = 0;
            thing = cells() - 1;
        }

        private void clearCells() {
            walls = 0;
            grass = 0;
            boards = 0;
            dust = 0;
            watchers.clear();
        }

        /** Takes over the signs of a pad without a fault that has a cell without a wall. */
        void furnish(Pad pad) {
            clearCells();
            for (int cell = 0; cell < cells(); cell++) {
                furnishCell(cell, pad.signAt(cell));
            }
            door = cellOf(open() & -open());
            for (int cell = 0; cell < cells(); cell++) {
                if (!has(walls, cell)) {
                    thing = cell;
                }
            }
        }

        private void furnishCell(int cell, char sign) {
            walls |= sign == '#' ? bit(cell) : 0;
            grass |= sign == 'g' ? bit(cell) : 0;
            boards |= sign == 'c' ? bit(cell) : 0;
            dust |= sign == 'd' ? bit(cell) : 0;
        }

        int signOf(int cell) {
            if (has(walls, cell)) {
                return '#';
            }
            if (has(grass, cell)) {
                return 'g';
            }
            if (has(boards, cell)) {
                return 'c';
            }
            return has(dust, cell) ? 'd' : '.';
        }

        int moveDoor(int cell) {
            int before = door;
            door = cell;
            return before;
        }

        int moveThing(int cell) {
            int before = thing;
            thing = cell;
            return before;
        }

        /** A set moved by a step as if there were no walls; what would go beyond the house is gone. */
        private int moved(int set, int step) {
            switch (step) {
                case 0: return set >>> columns;
                case 1: return (set & ~lastColumn) << 1;
                case 2: return set << columns & all;
                case 3: return (set & ~firstColumn) >>> 1;
                default: return set;
            }
        }

        /** The place to which a step leads; 0: it can not be. */
        int stepTo(int place, int step) {
            return moved(place, step) & open();
        }

        int stepOrStay(int place, int step) {
            int next = stepTo(place, step);
            return next == 0 ? place : next;
        }

        /** A set with all that is side by side with it, walls too. */
        int spread(int set) {
            int wider = set;
            for (int step = 0; step < DIRECTIONS; step++) {
                wider |= moved(set, step);
            }
            return wider;
        }

        /** The cells no farther from a cell than so many rows and columns together. */
        int around(int cell, int distance) {
            int set = bit(cell);
            for (int i = 0; i < distance; i++) {
                set = spread(set);
            }
            return set;
        }

        int sightFrom(int cell, int looking) {
            int front = bit(cell);
            int sight = front;
            for (int i = 1; i < MOST_SIDE; i++) {
                front = moved(front, looking) & ~walls;
                sight |= front;
            }
            return sight;
        }

        int seenBy(int watcher) {
            return sightFrom(watchers.cellOfOne(watcher), watchers.lookingOf(watcher));
        }

        /** The cells that are not bare for a watcher there. */
        int spoiledFrom(int cell, int looking, boolean dog) {
            int spoiled = sightFrom(cell, looking) & (grass | dust) | around(cell, earshot) & boards;
            return dog ? spoiled | around(cell, 1) : spoiled;
        }

        int bareCells() {
            int bare = open();
            for (int w = 0; w < watchers.count; w++) {
                bare &= ~spoiledFrom(watchers.cellOfOne(w), watchers.lookingOf(w), watchers.hasDog(w));
            }
            return bare;
        }

        void copyFrom(House other) {
            layOut(other.rows, other.columns);
            walls = other.walls;
            grass = other.grass;
            boards = other.boards;
            dust = other.dust;
            door = other.door;
            thing = other.thing;
            earshot = other.earshot;
            watchers.copyFrom(other.watchers);
        }
    }

    private static final class Image {
        final House house = new House();
        boolean kept;
    }

    /** A wearer on its walk, and what of it the watchers of that house perceive. */
    private static final class Wearer {
        final int[] seen = new int[MOST_WATCHERS];
        final int[] heard = new int[MOST_WATCHERS];
        final int[] smelt = new int[MOST_WATCHERS];
        int here;
        int been;
        boolean stepped;

        void begin(House house) {
            here = bit(house.door);
            been = here;
            stepped = false;
            for (int w = 0; w < house.watchers.count; w++) {
                int cell = house.watchers.cellOfOne(w);
                put(seen, w, house.seenBy(w));
                put(heard, w, house.around(cell, house.earshot));
                put(smelt, w, house.watchers.hasDog(w) ? house.around(cell, 1) : 0);
            }
        }

        /** False if the step can not be: then it stays, which moves no grass and no board. */
        boolean take(House house, int step) {
            int next = house.stepTo(here, step);
            stepped = next != 0 && step != STAYING;
            if (next == 0) {
                return false;
            }
            here = next;
            been |= next;
            return true;
        }

        /** The least watcher to whom it shows; NONE. In wind the grass tells nothing. */
        int firstShownTo(House house, boolean windy) {
            for (int w = 0; w < house.watchers.count; w++) {
                if (reasonTo(house, w, windy) != 0) {
                    return w;
                }
            }
            return NONE;
        }

        /** The least reason for which it shows to a watcher; 0: it does not. */
        int reasonTo(House house, int watcher, boolean windy) {
            if (!windy && stepped && (here & house.grass & at(seen, watcher)) != 0) {
                return 1;
            }
            if (stepped && (here & house.boards & at(heard, watcher)) != 0) {
                return 2;
            }
            if ((been & house.dust & at(seen, watcher)) != 0) {
                return 3;
            }
            return (here & at(smelt, watcher)) != 0 ? 4 : 0;
        }
    }

    private static final class Verdict {
        int blocked;
        int firstMinute;
        int toWhom;
        int reason;
        int shownMinutes;
        int grassMinutes;
        int end;

        void follow(House house, Pad pad, Wearer wearer) {
            forget();
            wearer.begin(house);
            for (int minute = 0; minute < pad.length; minute++) {
                if (!wearer.take(house, pad.stepAt(minute))) {
                    blocked = minute;
                    return;
                }
                note(house, wearer, minute);
            }
            end = cellOf(wearer.here);
        }

        private void forget() {
            blocked = NONE;
            firstMinute = NONE;
            toWhom = NONE;
            reason = NONE;
            shownMinutes = 0;
            grassMinutes = 0;
            end = NONE;
        }

        private void note(House house, Wearer wearer, int minute) {
            int watcher = wearer.firstShownTo(house, false);
            if (watcher == NONE) {
                return;
            }
            if (firstMinute == NONE) {
                firstMinute = minute;
                toWhom = watcher;
                reason = wearer.reasonTo(house, watcher, false);
            }
            shownMinutes++;
            if (wearer.firstShownTo(house, true) == NONE) {
                grassMinutes++;
            }
        }

        int answer(int what) {
            switch (what) {
                case 1: return firstMinute;
                case 2: return toWhom;
                case 3: return reason;
                case 4: return shownMinutes;
                default: return end;
            }
        }
    }

    /** Shortest ways, and the cells without which there is none. */
    private static final class Ways {
        final int[] layers = new int[MOST_CELLS];
        final int[] costs = new int[MOST_CELLS];

        /** How far a place is from a goal over allowed cells; the layers hold what is how far, up to there. */
        int measure(House house, int from, int goal, int allowed) {
            int layer = goal & allowed;
            int reached = layer;
            for (int far = 0; far < layers.length; far++) {
                layers[far] = layer;
                if ((layer & from) != 0) {
                    return far;
                }
                layer = house.spread(layer) & allowed & ~reached;
                reached |= layer;
            }
            return NONE;
        }

        /** The i-th step of the first shortest way; NONE. */
        int stepOnWay(House house, int from, int goal, int allowed, int i) {
            int here = from;
            int left = measure(house, from, goal, allowed);
            for (int taken = 0; taken < left; taken++) {
                int step = firstStepInto(house, here, at(layers, left - taken - 1));
                if (taken == i) {
                    return step;
                }
                here = house.stepOrStay(here, step);
            }
            return NONE;
        }

        private static int firstStepInto(House house, int here, int layer) {
            for (int step = 0; step < DIRECTIONS; step++) {
                if ((house.stepTo(here, step) & layer) != 0) {
                    return step;
                }
            }
            return NONE;
        }

        /** Wants the layers from the door on; the way back may take the same cells as the way there. */
        int fewestShowingSteps(House house, int there) {
            if (there == 0) {
                return 0;
            }
            int showing = house.open() & ~house.bareCells();
            Arrays.fill(costs, 0);
            for (int far = 1; far <= there; far++) {
                costLayer(house, far, showing);
            }
            int between = cheapestBefore(house, house.thing, at(layers, there - 1));
            return 2 * between + (has(showing, house.thing) ? 1 : 0);
        }

        private void costLayer(House house, int far, int showing) {
            for (int cell = 0; cell < costs.length; cell++) {
                if (has(at(layers, far), cell)) {
                    costs[cell] = cheapestBefore(house, cell, at(layers, far - 1)) + (has(showing, cell) ? 1 : 0);
                }
            }
        }

        private int cheapestBefore(House house, int cell, int layer) {
            int cheapest = MOST_CELLS;
            for (int step = 0; step < DIRECTIONS; step++) {
                int before = house.stepTo(bit(cell), step) & layer;
                if (before != 0) {
                    cheapest = Math.min(cheapest, at(costs, cellOf(before)));
                }
            }
            return cheapest;
        }

        /** The least of the smallest sets without which the thing is out of reach; NONE. */
        int fewestCut(House house) {
            if (has(house.around(house.door, 1), house.thing)) {
                return NONE;
            }
            // the cells beside the door are such a set, so four are always enough
            for (int size = 0; size <= DIRECTIONS; size++) {
                int set = firstCut(house, 0, MOST_CELLS, size);
                if (set != NONE) {
                    return set;
                }
            }
            return NONE;
        }

        /** Chooses the highest cell first, the least of those first, so that sets come in the order of their bits. */
        private static int firstCut(House house, int chosen, int limit, int left) {
            if (left <= 0) {
                return isCut(house, chosen) ? chosen : NONE;
            }
            int free = house.open() & ~bit(house.door) & ~bit(house.thing);
            for (int cell = left - 1; cell < limit; cell++) {
                int set = has(free, cell) ? firstCut(house, chosen | bit(cell), cell, left - 1) : NONE;
                if (set != NONE) {
                    return set;
                }
            }
            return NONE;
        }

        private static boolean isCut(House house, int floured) {
            int allowed = house.open() & ~floured;
            int reached = bit(house.door);
            for (int i = 0; i < MOST_CELLS && !has(reached, house.thing); i++) {
                int wider = house.spread(reached) & allowed;
                if (wider == reached) {
                    return true;
                }
                reached = wider;
            }
            return !has(reached, house.thing);
        }
    }

    /** In how many ways a wearer can have come to each cell. */
    private static final class Whereabouts {
        final int[] counts = new int[MOST_CELLS];
        final int[] before = new int[MOST_CELLS];

        void begin(int door) {
            Arrays.fill(counts, 0);
            put(counts, door, 1);
        }

        void passMinute(House house, int allowed) {
            System.arraycopy(counts, 0, before, 0, MOST_CELLS);
            for (int cell = 0; cell < counts.length; cell++) {
                counts[cell] = has(allowed, cell) ? waysInto(house, cell) : 0;
            }
        }

        /** Steps lead back as they lead there, so who comes into a cell comes from where it leads. */
        private int waysInto(House house, int cell) {
            int sum = 0;
            for (int step = 0; step < STEPS; step++) {
                int from = house.stepTo(bit(cell), step);
                sum += from == 0 ? 0 : at(before, cellOf(from));
            }
            return sum;
        }

        int possibleCells() {
            int set = 0;
            for (int cell = 0; cell < counts.length; cell++) {
                set |= counts[cell] > 0 ? bit(cell) : 0;
            }
            return set;
        }

        int walks() {
            int sum = 0;
            for (int cell = 0; cell < counts.length; cell++) {
                sum += counts[cell];
            }
            return sum;
        }
    }
}
