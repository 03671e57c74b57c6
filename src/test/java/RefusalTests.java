import java.util.ArrayList;
import java.util.List;
import java.util.function.Supplier;

/**
 * What each refused call answers, that it changes nothing, and which refusal comes first where two fit.
 * A call is made on one of two objects with the same past; then all that can be asked must be the same of both.
 */
final class RefusalTests {
    private static final int LEAST_INT = Integer.MIN_VALUE;
    private static final int MOST_INT = Integer.MAX_VALUE;
    private static final long GONE = CapHouse.GONE;
    private static final String OPEN = "..gc" + "d#.." + "g..d" + ".c#.";
    private static final String THIRTEEN = "ewewewewewewe";

    private interface Call {
        long on(CapHouse x);
    }

    private final Checks c;

    private RefusalTests(Checks c) {
        this.c = c;
    }

    static void run(Checks checks) {
        RefusalTests t = new RefusalTests(checks);
        t.numbersOutside();
        t.noSuchCellOrWatcher();
        t.padRefusals();
        t.wallRefusals();
        t.walkRefusals();
        t.fullRefusals();
        t.imageRefusals();
        t.whichComesFirst();
        t.nothingThereIsNoChange();
        t.askingChangesNothing();
    }

    // ---- objects with a past

    private static CapHouse fresh() {
        return new CapHouse();
    }

    /** Walls, watchers, images of other houses, and a pad. */
    private static CapHouse busy(int watchers, String pad) {
        CapHouse x = new CapHouse();
        x.watch(4, 2, true);
        x.image(0);
        x.house(2, 1);
        x.ears(4);
        x.image(1);
        x.house(4, 4);
        Checks.say(x, OPEN);
        x.build();
        x.ears(2);
        x.place(0, 1);
        x.place(1, 11);
        for (int w = 0; w < watchers; w++) {
            x.watch(new int[] {9, 15, 2, 6}[w], w, w == 1);
        }
        Checks.say(x, pad);
        return x;
    }

    private static CapHouse busy(String pad) {
        return busy(3, pad);
    }

    /** A house of so many cells in a row, of signs, a watcher in the last one that looks west, and a pad. */
    private static CapHouse row(String signs, String pad) {
        CapHouse x = new CapHouse();
        x.house(1, signs.length());
        Checks.say(x, signs);
        x.build();
        x.watch(signs.length() - 1, 3, false);
        Checks.say(x, pad);
        return x;
    }

    private static CapHouse square(String pad) {
        CapHouse x = new CapHouse();
        x.house(2, 2);
        x.watch(3, 0, true);
        Checks.say(x, pad);
        return x;
    }

    // ---- all that can be asked

    private static void askNow(CapHouse x, List<Long> all) {
        for (int what = 0; what <= 6; what++) {
            all.add((long) x.told(what));
        }
        for (int w = 0; w < 4; w++) {
            for (int kind = 0; kind < 3; kind++) {
                all.add((long) x.told(10 * (1 + w) + kind));
            }
            all.add((long) x.sees(w));
        }
        for (int cell = 0; cell < 16; cell++) {
            all.add((long) x.cell(cell));
        }
        for (int what = 0; what <= 5; what++) {
            all.add((long) x.judge(what));
        }
        for (int what = 0; what <= 1; what++) {
            all.add((long) x.fault(what));
            all.add((long) x.least(what));
            all.add((long) x.flour(what));
            all.add((long) x.post(what));
            all.add((long) x.where(1, 2, what));
            all.add(x.wind(3, what));
        }
        for (int what = 0; what <= 2; what++) {
            all.add((long) x.night(1747, 40, what));
        }
        all.add((long) x.bare());
        all.add((long) x.safe(-1));
        all.add((long) x.safe(0));
        all.add((long) x.meet(321, 4));
    }

    /** Ends by building and restoring, so an object is asked once. */
    private static List<Long> askAll(CapHouse x) {
        List<Long> all = new ArrayList<>();
        askNow(x, all);
        for (int n = 0; n <= 1; n++) {
            all.add((long) x.restore(n));
            askNow(x, all);
        }
        all.add((long) x.say('-'));
        all.add((long) x.wipe());
        return all;
    }

    /** The pad's signs, as far as they make a house of its size. */
    private static List<Long> askPad(CapHouse x) {
        List<Long> all = new ArrayList<>();
        all.add((long) x.build());
        askNow(x, all);
        return all;
    }

    private void due(String what, Supplier<CapHouse> made, Call call, long due) {
        CapHouse x = made.get();
        CapHouse y = made.get();
        c.due(what, call.on(x), due);
        c.due(what + ", once more", call.on(x), due);
        c.holds(what + ": nothing is changed", askAll(x).equals(askAll(y)));
        x = made.get();
        call.on(x);
        c.holds(what + ": the pad is not changed", askPad(x).equals(askPad(made.get())));
    }

    // ---- OUTSIDE

    private void numbersOutside() {
        List<Supplier<CapHouse>> pasts = List.of(RefusalTests::fresh, () -> busy("wssn"), () -> busy(OPEN));
        for (Supplier<CapHouse> past : pasts) {
            for (int wrong : new int[] {0, 5, -1, LEAST_INT, MOST_INT}) {
                due("house(" + wrong + ", 2)", past, x -> x.house(wrong, 2), -2);
                due("house(2, " + wrong + ")", past, x -> x.house(2, wrong), -2);
            }
            for (int wrong : new int[] {32, 127, -1, 0, LEAST_INT, MOST_INT}) {
                due("say(" + wrong + ")", past, x -> x.say(wrong), -2);
            }
            for (int wrong : new int[] {-1, 7, LEAST_INT, MOST_INT}) {
                due("ears(" + wrong + ")", past, x -> x.ears(wrong), -2);
            }
            for (int wrong : new int[] {-1, 2, LEAST_INT, MOST_INT}) {
                twoOnly(past, wrong);
            }
            for (int wrong : new int[] {-1, 4, LEAST_INT, MOST_INT}) {
                due("watch(0, " + wrong + ")", past, x -> x.watch(0, wrong, true), -2);
            }
            for (int wrong : new int[] {-1, 6, LEAST_INT, MOST_INT}) {
                due("judge(" + wrong + ")", past, x -> x.judge(wrong), -2);
            }
            for (int wrong : new int[] {-1, 7, 9, 13, 19, 43, 50, LEAST_INT, MOST_INT}) {
                due("told(" + wrong + ")", past, x -> x.told(wrong), -2);
            }
            countsOutside(past);
        }
    }

    private void twoOnly(Supplier<CapHouse> past, int wrong) {
        due("fault(" + wrong + ")", past, x -> x.fault(wrong), -2);
        due("place(" + wrong + ", 0)", past, x -> x.place(wrong, 0), -2);
        due("least(" + wrong + ")", past, x -> x.least(wrong), -2);
        due("flour(" + wrong + ")", past, x -> x.flour(wrong), -2);
        due("post(" + wrong + ")", past, x -> x.post(wrong), -2);
        due("where(0, 1, " + wrong + ")", past, x -> x.where(0, 1, wrong), -2);
        due("wind(5, " + wrong + ")", past, x -> x.wind(5, wrong), GONE - 2);
        due("image(" + wrong + ")", past, x -> x.image(wrong), -2);
        due("restore(" + wrong + ")", past, x -> x.restore(wrong), -2);
    }

    private void countsOutside(Supplier<CapHouse> past) {
        for (int n : new int[] {-1, 9, LEAST_INT, MOST_INT}) {
            due("meet(0, " + n + ")", past, x -> x.meet(0, n), -2);
            due("where(0, " + n + ", 0)", past, x -> x.where(0, n, 0), -2);
        }
        for (int steps : new int[] {-1, 25, LEAST_INT, MOST_INT}) {
            due("meet(" + steps + ", 2)", past, x -> x.meet(steps, 2), -2);
        }
        for (int shown : new int[] {-1, 4, LEAST_INT, MOST_INT}) {
            due("where(" + shown + ", 2, 1)", past, x -> x.where(shown, 2, 1), -2);
        }
        for (int w : new int[] {-1, 11, LEAST_INT, MOST_INT}) {
            due("wind(" + w + ", 0)", past, x -> x.wind(w, 0), GONE - 2);
            due("wind(" + w + ", 1)", past, x -> x.wind(w, 1), GONE - 2);
        }
        for (int seed : new int[] {-1, 10000, LEAST_INT, MOST_INT}) {
            due("night(" + seed + ", 9, 0)", past, x -> x.night(seed, 9, 0), -2);
        }
        for (int n : new int[] {-1, 100, LEAST_INT, MOST_INT}) {
            due("night(5, " + n + ", 0)", past, x -> x.night(5, n, 0), -2);
        }
        for (int what : new int[] {-1, 3, LEAST_INT, MOST_INT}) {
            due("night(5, 9, " + what + ")", past, x -> x.night(5, 9, what), -2);
        }
    }

    // ---- UNKNOWN

    private void noSuchCellOrWatcher() {
        for (int cell : new int[] {-1, 9, LEAST_INT, MOST_INT}) {
            noSuchCell(RefusalTests::fresh, cell);
        }
        for (int cell : new int[] {-1, 16, LEAST_INT, MOST_INT}) {
            noSuchCell(() -> busy("wssn"), cell);
            noSuchCell(() -> busy(4, OPEN), cell);
        }
        for (int watcher : new int[] {-1, 3, LEAST_INT, MOST_INT}) {
            due("sees(" + watcher + ")", () -> busy("wssn"), x -> x.sees(watcher), -1);
        }
        due("sees(0) of none", RefusalTests::fresh, x -> x.sees(0), -1);
        due("sees(4) of four", () -> busy(4, ""), x -> x.sees(4), -1);
    }

    private void noSuchCell(Supplier<CapHouse> past, int cell) {
        due("cell(" + cell + ")", past, x -> x.cell(cell), -1);
        due("place(0, " + cell + ")", past, x -> x.place(0, cell), -1);
        due("place(1, " + cell + ")", past, x -> x.place(1, cell), -1);
        due("watch(" + cell + ")", past, x -> x.watch(cell, 0, true), -1);
    }

    // ---- NO, STATE, FULL

    private void padRefusals() {
        for (String pad : new String[] {"", ".", "...", "....g", "..x.", "nesw", "....xxxxx"}) {
            due("build() of '" + pad + "'", () -> square(pad), CapHouse::build, -5);
        }
        due("build() of walls", () -> square("####"), CapHouse::build, -3);
        due("build() of too many for a new object", RefusalTests::fresh, CapHouse::build, -5);
        due("build() of forty signs", () -> busy("-".repeat(40)), CapHouse::build, -5);
        due("say() of a 41st", () -> busy(".".repeat(40)), x -> x.say('.'), -4);
        due("say() of a 41st", () -> busy("-".repeat(40)), x -> x.say('~'), -4);
    }

    private void wallRefusals() {
        for (int wall : new int[] {5, 14}) {
            due("place(0, a wall)", () -> busy("wssn"), x -> x.place(0, wall), -3);
            due("place(1, a wall)", () -> busy("wssn"), x -> x.place(1, wall), -3);
            due("watch(a wall)", () -> busy("wssn"), x -> x.watch(wall, 1, true), -3);
        }
    }

    private void walkRefusals() {
        for (String pad : new String[] {"x", "wx", "-.", "W", "-".repeat(39) + "N"}) {
            for (int what = 0; what <= 5; what++) {
                int asked = what;
                due("judge(" + what + ") of '" + pad + "'", () -> busy(pad), x -> x.judge(asked), -5);
            }
            due("meet() with '" + pad + "'", () -> busy(pad), x -> x.meet(7, 2), -5);
            due("wind() with '" + pad + "'", () -> busy(pad), x -> x.wind(5, 0), GONE - 5);
            due("wind() with '" + pad + "'", () -> busy(pad), x -> x.wind(5, 1), GONE - 5);
        }
        for (String pad : new String[] {"n", "s", "ww", "-".repeat(39) + "s"}) {
            due("judge(0) of '" + pad + "'", () -> busy(pad), x -> x.judge(0), pad.length() - 1);
            for (int what = 1; what <= 5; what++) {
                int asked = what;
                due("judge(" + what + ") of '" + pad + "'", () -> busy(pad), x -> x.judge(asked), -3);
            }
            due("meet() with '" + pad + "'", () -> busy(pad), x -> x.meet(7, 2), -3);
            due("wind() with '" + pad + "'", () -> busy(pad), x -> x.wind(5, 0), GONE - 3);
            due("wind() with '" + pad + "'", () -> busy(pad), x -> x.wind(5, 1), GONE - 3);
        }
    }

    private void fullRefusals() {
        due("watch() of a fifth", () -> busy(4, "wssn"), x -> x.watch(0, 0, true), -4);
        due("post(0) of four", () -> busy(4, "wssn"), x -> x.post(0), -4);
        due("post(1) of four", () -> busy(4, "wssn"), x -> x.post(1), -4);
        due("wind(5, 0) of thirteen", () -> row("gg", THIRTEEN), x -> x.wind(5, 0), GONE - 4);
        due("wind(5, 1) of thirteen", () -> row("gg", THIRTEEN), x -> x.wind(5, 1), GONE - 4);
        due("wind(0, 0) of thirteen and dust", () -> row("ggd", THIRTEEN + "e"), x -> x.wind(0, 0), GONE - 4);
    }

    private void imageRefusals() {
        due("restore(0)", RefusalTests::fresh, x -> x.restore(0), -3);
        due("restore(1)", RefusalTests::fresh, x -> x.restore(1), -3);
        due("restore(0) with none kept", () -> row(".gcd#", "e-w"), x -> x.restore(0), -3);
        due("restore(1) with none kept", () -> row(".gcd#", ".gcd"), x -> x.restore(1), -3);
    }

    // ---- the first of two that fit

    private void whichComesFirst() {
        due("place: cell, which", () -> busy(""), x -> x.place(2, 16), -1);
        due("place: which, wall", () -> busy(""), x -> x.place(2, 5), -2);
        due("watch: cell, looking", () -> busy(""), x -> x.watch(16, 4, true), -1);
        due("watch: cell, full", () -> busy(4, ""), x -> x.watch(16, 0, true), -1);
        due("watch: cell, looking, full", () -> busy(4, ""), x -> x.watch(-1, -1, true), -1);
        due("watch: looking, wall", () -> busy(""), x -> x.watch(5, 4, true), -2);
        due("watch: looking, full", () -> busy(4, ""), x -> x.watch(0, 4, true), -2);
        due("watch: looking, wall, full", () -> busy(4, ""), x -> x.watch(5, 4, true), -2);
        due("watch: wall, full", () -> busy(4, ""), x -> x.watch(5, 0, true), -3);
        due("say: code, full", () -> busy("-".repeat(40)), x -> x.say(32), -2);
        due("say: code, full", () -> busy("-".repeat(40)), x -> x.say(127), -2);
        due("build: fault, walls", () -> square("###"), CapHouse::build, -5);
        due("build: fault, walls", () -> square("#####"), CapHouse::build, -5);
        due("judge: what, fault", () -> busy("x"), x -> x.judge(6), -2);
        due("judge: what, step", () -> busy("n"), x -> x.judge(-1), -2);
        due("judge(0): fault, step ahead of it", () -> busy("nx"), x -> x.judge(0), -5);
        due("judge(1): fault, step ahead of it", () -> busy("nx"), x -> x.judge(1), -5);
        due("judge(5): fault, step ahead of it", () -> busy("nx"), x -> x.judge(5), -5);
        due("fault: how, fault", () -> busy("x"), x -> x.fault(2), -2);
        due("post: what, full", () -> busy(4, ""), x -> x.post(2), -2);
        due("restore: n, not kept", RefusalTests::fresh, x -> x.restore(2), -2);
        due("least: what, no way", () -> row(".#.", ""), x -> x.least(2), -2);
        due("flour: what, side by side", () -> row("..", ""), x -> x.flour(2), -2);
        meetFirst();
        windFirst();
    }

    private void meetFirst() {
        due("meet: n, fault", () -> busy("x"), x -> x.meet(0, 9), -2);
        due("meet: n, step", () -> busy("n"), x -> x.meet(0, -1), -2);
        due("meet: number, fault", () -> busy("x"), x -> x.meet(5, 1), -2);
        due("meet: number, step", () -> busy("n"), x -> x.meet(1, 0), -2);
        due("meet: fault, step", () -> busy("nx"), x -> x.meet(0, 1), -5);
        due("meet: fault, step, though none is told", () -> busy("nx"), x -> x.meet(0, 0), -5);
        due("meet: step, though none is told", () -> busy("n"), x -> x.meet(0, 0), -3);
    }

    private void windFirst() {
        due("wind: w, part", () -> busy(""), x -> x.wind(11, 2), GONE - 2);
        due("wind: w, fault", () -> busy("x"), x -> x.wind(-1, 0), GONE - 2);
        due("wind: part, fault", () -> busy("x"), x -> x.wind(0, 2), GONE - 2);
        due("wind: w, step", () -> busy("n"), x -> x.wind(11, 0), GONE - 2);
        due("wind: part, step", () -> busy("n"), x -> x.wind(10, -1), GONE - 2);
        due("wind: w, full", () -> row("gg", THIRTEEN), x -> x.wind(11, 0), GONE - 2);
        due("wind: part, full", () -> row("gg", THIRTEEN), x -> x.wind(1, 2), GONE - 2);
        due("wind: fault, step", () -> busy("nx"), x -> x.wind(5, 0), GONE - 5);
        due("wind: fault, full", () -> row("gg", THIRTEEN + "x"), x -> x.wind(5, 0), GONE - 5);
        due("wind: step, full", () -> row("gg", THIRTEEN + "e"), x -> x.wind(5, 0), GONE - 3);
    }

    // ---- NONE, and what is only asked

    private void nothingThereIsNoChange() {
        due("judge(0) of none", () -> row("...", "ew"), x -> x.judge(0), -6);
        due("judge(1) of none", () -> row("...", "ew"), x -> x.judge(1), -6);
        due("judge(2) of none", () -> row("...", "ew"), x -> x.judge(2), -6);
        due("judge(3) of none", () -> row("...", "ew"), x -> x.judge(3), -6);
        due("fault(0) of none", () -> row("...", ".gc"), x -> x.fault(0), -6);
        due("fault(1) of none", () -> row("...", "ew"), x -> x.fault(1), -6);
        due("safe(-1) without a way", () -> row(".#.", "-"), x -> x.safe(-1), -6);
        due("safe(0) without a way", () -> row(".#.", "-"), x -> x.safe(0), -6);
        due("safe(-2)", () -> row("...", "-"), x -> x.safe(-2), -6);
        due("safe(4) of four", () -> row("...", "-"), x -> x.safe(4), -6);
        due("least(0) without a way", () -> row(".#.", "-"), x -> x.least(0), -6);
        due("least(1) without a way", () -> row(".#.", "-"), x -> x.least(1), -6);
        due("flour(0) side by side", () -> row("..", "-"), x -> x.flour(0), -6);
        due("flour(1) of one", () -> row(".", "-"), x -> x.flour(1), -6);
        due("meet() nowhere", () -> row("....", "ew"), x -> x.meet(24, 2), -6);
    }

    private void askingChangesNothing() {
        for (String pad : new String[] {"", "ws-ne-ee", "x", "n", OPEN}) {
            CapHouse x = busy(3, pad);
            List<Long> first = new ArrayList<>();
            List<Long> then = new ArrayList<>();
            askNow(x, first);
            askNow(x, then);
            c.holds("asked twice, pad '" + pad + "'", first.equals(then));
            c.holds("asked thrice, pad '" + pad + "'", askAll(x).equals(askAll(busy(3, pad))));
        }
        for (int what = 0; what <= 1; what++) {
            int asked = what;
            due("post(" + what + ")", () -> busy("ws"), x -> x.post(asked), busy("ws").post(what));
            due("image(" + what + ") kept anew", () -> keptAnew(), x -> x.image(asked), 1);
        }
    }

    /** What is kept anew by either image is just what was kept. */
    private static CapHouse keptAnew() {
        CapHouse x = busy("ws");
        x.image(0);
        x.image(1);
        return x;
    }
}
