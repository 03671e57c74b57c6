import java.math.BigInteger;
import java.util.ArrayList;
import java.util.List;
import java.util.Set;
import java.util.TreeSet;

/**
 * The document once more, as plainly as can be and held otherwise than CapHouse holds it:
 * rows and columns, texts, all ways one by one.
 */
final class Reference {
    private record Watcher(int cell, int looking, boolean dog) { }

    private record Kept(int rows, int columns, String signs, int door, int thing, int ears, List<Watcher> watchers) { }

    private int rows = 3;
    private int columns = 3;
    private String signs = ".........";
    private int door = 0;
    private int thing = 8;
    private int ears = 1;
    private List<Watcher> watchers = new ArrayList<>();
    private String pad = "";
    private final Kept[] images = new Kept[2];

    int house(int r, int c) {
        if (r < 1 || r > 4 || c < 1 || c > 4) {
            return -2;
        }
        rows = r;
        columns = c;
        signs = ".".repeat(r * c);
        watchers.clear();
        door = 0;
        thing = r * c - 1;
        return r * c;
    }

    int say(int sign) {
        if (sign < 33 || sign > 126) {
            return -2;
        }
        if (pad.length() == 40) {
            return -4;
        }
        pad += (char) sign;
        return pad.length();
    }

    int wipe() {
        int n = pad.length();
        pad = "";
        return n;
    }

    int fault(int how) {
        if (how != 0 && how != 1) {
            return -2;
        }
        for (int i = 0; i < pad.length(); i++) {
            boolean can = how == 1 ? "nesw-".contains(pad.substring(i, i + 1))
                : i < rows * columns && ".gcd#".contains(pad.substring(i, i + 1));
            if (!can) {
                return i;
            }
        }
        return how == 0 && pad.length() < rows * columns ? pad.length() : -6;
    }

    int build() {
        if (fault(0) != -6) {
            return -5;
        }
        if (pad.replace("#", "").isEmpty()) {
            return -3;
        }
        signs = pad;
        pad = "";
        watchers.clear();
        int open = 0;
        for (int c = signs.length() - 1; c >= 0; c--) {
            if (signs.charAt(c) != '#') {
                thing = open == 0 ? c : thing;
                door = c;
                open++;
            }
        }
        return open;
    }

    private boolean isCell(int c) {
        return c >= 0 && c < rows * columns;
    }

    int cell(int c) {
        return isCell(c) ? signs.charAt(c) : -1;
    }

    int place(int which, int c) {
        if (!isCell(c)) {
            return -1;
        }
        if (which != 0 && which != 1) {
            return -2;
        }
        if (signs.charAt(c) == '#') {
            return -3;
        }
        int was = which == 0 ? door : thing;
        if (which == 0) {
            door = c;
        } else {
            thing = c;
        }
        return was;
    }

    int watch(int c, int looking, boolean dog) {
        if (!isCell(c)) {
            return -1;
        }
        if (looking < 0 || looking > 3) {
            return -2;
        }
        if (signs.charAt(c) == '#') {
            return -3;
        }
        if (watchers.size() == 4) {
            return -4;
        }
        watchers.add(new Watcher(c, looking, dog));
        return watchers.size();
    }

    int dismiss() {
        int n = watchers.size();
        watchers.clear();
        return n;
    }

    int ears(int v) {
        if (v < 0 || v > 6) {
            return -2;
        }
        int was = ears;
        ears = v;
        return was;
    }

    /** Where a step leads; -1: it can not be. */
    private int next(int c, char step) {
        int r = c / columns + (step == 's' ? 1 : step == 'n' ? -1 : 0);
        int k = c % columns + (step == 'e' ? 1 : step == 'w' ? -1 : 0);
        boolean inside = r >= 0 && r < rows && k >= 0 && k < columns;
        return inside && signs.charAt(r * columns + k) != '#' ? r * columns + k : -1;
    }

    private int distance(int a, int b) {
        return Math.abs(a / columns - b / columns) + Math.abs(a % columns - b % columns);
    }

    private Set<Integer> seen(Watcher w) {
        Set<Integer> cells = new TreeSet<>();
        for (int c = w.cell; c >= 0; c = next(c, "nesw".charAt(w.looking))) {
            cells.add(c);
        }
        return cells;
    }

    private static int bits(Set<Integer> cells) {
        int sum = 0;
        for (int c : cells) {
            sum += 1 << c;
        }
        return sum;
    }

    int sees(int w) {
        return w >= 0 && w < watchers.size() ? bits(seen(watchers.get(w))) : -1;
    }

    private boolean spoils(Watcher w, int c) {
        char sign = signs.charAt(c);
        boolean sight = seen(w).contains(c);
        return sight && (sign == 'g' || sign == 'd') || sign == 'c' && distance(c, w.cell) <= ears
            || w.dog && distance(c, w.cell) <= 1;
    }

    private Set<Integer> bareSet(List<Watcher> all) {
        Set<Integer> cells = new TreeSet<>();
        for (int c = 0; c < signs.length(); c++) {
            final int cell = c;
            if (signs.charAt(c) != '#' && all.stream().noneMatch(w -> spoils(w, cell))) {
                cells.add(c);
            }
        }
        return cells;
    }

    int bare() {
        return bits(bareSet(watchers));
    }

    /** The places of a walk, from the door on, up to the first step that can not be. */
    private List<Integer> places(String walk) {
        List<Integer> list = new ArrayList<>();
        list.add(door);
        for (char step : walk.toCharArray()) {
            int c = next(list.get(list.size() - 1), step);
            if (c < 0) {
                break;
            }
            list.add(c);
        }
        return list;
    }

    /** All reasons at a minute to a watcher, of places (the first of them before minute 0). */
    private Set<Integer> reasons(List<Integer> places, int minute, Watcher w) {
        Set<Integer> found = new TreeSet<>();
        int c = places.get(minute + 1);
        boolean stepped = c != places.get(minute);
        if (stepped && signs.charAt(c) == 'g' && seen(w).contains(c)) {
            found.add(1);
        }
        if (stepped && signs.charAt(c) == 'c' && distance(c, w.cell) <= ears) {
            found.add(2);
        }
        for (int i = 0; i <= minute + 1; i++) {
            if (signs.charAt(places.get(i)) == 'd' && seen(w).contains(places.get(i))) {
                found.add(3);
            }
        }
        if (w.dog && distance(c, w.cell) <= 1) {
            found.add(4);
        }
        return found;
    }

    private Set<Integer> reasonsToAny(List<Integer> places, int minute) {
        Set<Integer> found = new TreeSet<>();
        for (Watcher w : watchers) {
            found.addAll(reasons(places, minute, w));
        }
        return found;
    }

    boolean canBe(String walk) {
        return places(walk).size() == walk.length() + 1;
    }

    private int refusal() {
        return fault(1) != -6 ? -5 : places(pad).size() <= pad.length() ? -3 : 0;
    }

    int judge(int what) {
        if (what < 0 || what > 5) {
            return -2;
        }
        if (refusal() == -5) {
            return -5;
        }
        List<Integer> places = places(pad);
        if (what == 0) {
            return places.size() <= pad.length() ? places.size() - 1 : -6;
        }
        if (refusal() != 0) {
            return refusal();
        }
        int shown = 0;
        int[] first = null;
        for (int minute = 0; minute < pad.length(); minute++) {
            shown += reasonsToAny(places, minute).isEmpty() ? 0 : 1;
            for (int w = 0; w < watchers.size() && first == null; w++) {
                Set<Integer> found = reasons(places, minute, watchers.get(w));
                first = found.isEmpty() ? null : new int[] {minute, w, found.iterator().next()};
            }
        }
        if (what <= 3) {
            return first == null ? -6 : first[what - 1];
        }
        return what == 4 ? shown : places.get(pad.length());
    }

    /** Every way that enters no cell twice over cells that are allowed, in the order of n e s w. */
    private void ways(int from, int goal, Set<Integer> allowed, String way, Set<Integer> been, List<String> out) {
        if (from == goal) {
            out.add(way);
            return;
        }
        for (char step : "nesw".toCharArray()) {
            int c = next(from, step);
            if (c >= 0 && allowed.contains(c) && been.add(c)) {
                ways(c, goal, allowed, way + step, been, out);
                been.remove(c);
            }
        }
    }

    private List<String> shortest(int from, int goal, Set<Integer> allowed) {
        List<String> all = new ArrayList<>();
        ways(from, goal, allowed, "", new TreeSet<>(List.of(from)), all);
        int least = all.stream().mapToInt(String::length).min().orElse(-1);
        all.removeIf(way -> way.length() != least);
        return all;
    }

    private Set<Integer> open() {
        return bareSet(List.of());
    }

    int safe(int i) {
        Set<Integer> allowed = bareSet(watchers);
        if (door != thing && !allowed.contains(thing)) {
            return -6;
        }
        allowed.add(door);
        List<String> there = shortest(door, thing, allowed);
        if (there.isEmpty()) {
            return -6;
        }
        String way = there.get(0) + shortest(thing, door, allowed).get(0);
        if (i == -1) {
            return way.length();
        }
        return i >= 0 && i < way.length() ? way.charAt(i) : -6;
    }

    private int showing(int from, String way, int steps) {
        Set<Integer> bare = bareSet(watchers);
        int sum = 0;
        int c = from;
        for (int i = 0; i < steps; i++) {
            c = next(c, way.charAt(i));
            sum += bare.contains(c) ? 0 : 1;
        }
        return sum;
    }

    int least(int what) {
        if (what != 0 && what != 1) {
            return -2;
        }
        List<String> there = shortest(door, thing, open());
        if (there.isEmpty()) {
            return -6;
        }
        int length = there.get(0).length();
        if (what == 1 || length == 0) {
            return 2 * length;
        }
        int best = there.stream().mapToInt(w -> showing(door, w, length)).min().orElse(-1);
        return best + shortest(thing, door, open()).stream().mapToInt(w -> showing(thing, w, length - 1)).min().orElse(-1);
    }

    private boolean joined(Set<Integer> allowed) {
        List<Integer> reached = new ArrayList<>(List.of(door));
        for (int i = 0; i < reached.size(); i++) {
            for (char step : "nesw".toCharArray()) {
                int c = next(reached.get(i), step);
                if (c >= 0 && allowed.contains(c) && !reached.contains(c)) {
                    reached.add(c);
                }
            }
        }
        return reached.contains(thing);
    }

    int flour(int what) {
        if (what != 0 && what != 1) {
            return -2;
        }
        if (distance(door, thing) <= 1) {
            return -6;
        }
        int best = -1;
        for (int set = 0; set < 1 << signs.length(); set++) {
            if (best >= 0 && Integer.bitCount(set) >= Integer.bitCount(best)) {
                continue;
            }
            Set<Integer> allowed = open();
            boolean good = true;
            for (int c = 0; c < signs.length(); c++) {
                if ((set >> c) % 2 == 1) {
                    good &= allowed.remove(c) && c != door && c != thing;
                }
            }
            if (good && !joined(allowed)) {
                best = set;
            }
        }
        return what == 0 ? Integer.bitCount(best) : best;
    }

    int post(int what) {
        if (what != 0 && what != 1) {
            return -2;
        }
        if (watchers.size() == 4) {
            return -4;
        }
        int where = -1;
        int fewest = 99;
        for (int c : open()) {
            for (int looking = 0; looking < 4; looking++) {
                List<Watcher> more = new ArrayList<>(watchers);
                more.add(new Watcher(c, looking, false));
                int left = bareSet(more).size();
                if (left < fewest) {
                    fewest = left;
                    where = 4 * c + looking;
                }
            }
        }
        return what == 0 ? where : fewest;
    }

    int meet(int steps, int n) {
        if (n < 0 || n > 8 || steps < 0 || steps >= Math.round(Math.pow(5, n))) {
            return -2;
        }
        if (refusal() != 0) {
            return refusal();
        }
        String digits = "0".repeat(8) + Integer.toString(steps, 5);
        digits = digits.substring(digits.length() - n);
        List<Integer> one = places(pad);
        int other = thing;
        for (int minute = 0; minute < Math.min(n, pad.length()); minute++) {
            int moved = next(other, "nesw-".charAt(digits.charAt(minute) - '0'));
            int then = moved < 0 ? other : moved;
            if (one.get(minute + 1) == then || one.get(minute + 1) == other && one.get(minute) == then) {
                return minute;
            }
            other = then;
        }
        return -6;
    }

    /** Goes through all walks one by one; ends holds at how many each cell is the last. */
    private void walks(int c, int minute, int shown, int n, Set<Integer> bare, int[] ends) {
        if (minute == n) {
            ends[c]++;
            return;
        }
        for (char step : "nesw-".toCharArray()) {
            int then = next(c, step);
            if (then >= 0 && bare.contains(then) == ((shown >> minute) % 2 == 0)) {
                walks(then, minute + 1, shown, n, bare, ends);
            }
        }
    }

    int where(int shown, int n, int what) {
        if (n < 0 || n > 8 || shown < 0 || shown >= 1 << n || what < 0 || what > 1) {
            return -2;
        }
        int[] ends = new int[16];
        walks(door, 0, shown, n, bareSet(watchers), ends);
        int sum = 0;
        for (int c = 0; c < 16; c++) {
            sum += what == 1 ? ends[c] : ends[c] > 0 ? 1 << c : 0;
        }
        return sum;
    }

    long wind(int w, int part) {
        long gone = -1000000000000000000L;
        if (w < 0 || w > 10 || part < 0 || part > 1) {
            return gone - 2;
        }
        if (refusal() != 0) {
            return gone + refusal();
        }
        int alone = 0;
        boolean otherwise = false;
        for (int minute = 0; minute < pad.length(); minute++) {
            Set<Integer> found = reasonsToAny(places(pad), minute);
            alone += found.equals(Set.of(1)) ? 1 : 0;
            otherwise |= found.stream().anyMatch(r -> r > 1);
        }
        if (alone > 12) {
            return gone - 4;
        }
        BigInteger upper = otherwise ? BigInteger.ZERO : BigInteger.valueOf(w).pow(alone);
        BigInteger lower = BigInteger.TEN.pow(alone);
        BigInteger common = upper.gcd(lower);
        return (part == 0 ? upper : lower).divide(common).longValueExact();
    }

    int night(int seed, int n, int what) {
        if (seed < 0 || seed > 9999 || n < 0 || n > 99 || what < 0 || what > 2) {
            return -2;
        }
        long x = seed;
        List<Integer> places = new ArrayList<>(List.of(door));
        int shown = 0;
        for (int minute = 0; minute < n; minute++) {
            x = (75 * x + 74) % 65537;
            int c = places.get(minute);
            int then = next(c, "nesw-".charAt((int) (x % 5)));
            places.add(then < 0 ? c : then);
            shown += reasonsToAny(places, minute).isEmpty() ? 0 : 1;
        }
        return what == 0 ? shown : what == 1 ? places.get(n) : new TreeSet<>(places).size();
    }

    int image(int n) {
        if (n < 0 || n > 1) {
            return -2;
        }
        images[n] = new Kept(rows, columns, signs, door, thing, ears, List.copyOf(watchers));
        return 1;
    }

    int restore(int n) {
        if (n < 0 || n > 1) {
            return -2;
        }
        Kept k = images[n];
        if (k == null) {
            return -3;
        }
        rows = k.rows;
        columns = k.columns;
        signs = k.signs;
        door = k.door;
        thing = k.thing;
        ears = k.ears;
        watchers = new ArrayList<>(k.watchers);
        return 1;
    }

    int told(int what) {
        List<Integer> first = List.of(pad.length(), rows, columns, door, thing, watchers.size(), ears);
        if (what >= 0 && what < 7) {
            return first.get(what);
        }
        for (int w = 0; w < watchers.size(); w++) {
            Watcher one = watchers.get(w);
            List<Integer> three = List.of(one.cell, one.looking, one.dog ? 1 : 0);
            if (what >= 10 * (1 + w) && what < 10 * (1 + w) + 3) {
                return three.get(what - 10 * (1 + w));
            }
        }
        return -2;
    }
}
