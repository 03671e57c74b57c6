import java.util.Random;

/** Runs of 512 calls by seeds, each answer held against the Reference. */
final class RandomRuns {
    private static final int RUNS = 400;
    private static final int CALLS = 512;

    private final Random random;
    private final Checks checks;
    private final String name;
    private final CapHouse x = new CapHouse();
    private final Reference y = new Reference();
    private int calls;

    private RandomRuns(int seed, Checks checks) {
        this.random = new Random(seed);
        this.checks = checks;
        this.name = "run " + seed;
    }

    static void run(Checks checks) {
        int runs = Integer.getInteger("runs", RUNS);
        int first = Integer.getInteger("first", 0);
        for (int seed = first; seed < first + runs && checks.failed() < 30; seed++) {
            new RandomRuns(seed, checks).go();
        }
    }

    private void go() {
        while (calls < CALLS - 45) {
            int kind = random.nextInt(30);
            if (kind < 3) {
                buildOne();
            } else if (kind < 6) {
                walkOne();
            } else {
                one(random.nextInt(26));
            }
        }
    }

    private void due(String call, long got, long want) {
        calls++;
        checks.due(name + " call " + calls + " " + call, got, want);
    }

    /** Mostly from least to most, now and then beyond, now and then far beyond. */
    private int number(int least, int most) {
        int kind = random.nextInt(40);
        if (kind == 0) {
            return least - 1;
        }
        if (kind == 1) {
            return most + 1;
        }
        if (kind == 2) {
            return random.nextInt();
        }
        return least + random.nextInt(most - least + 1);
    }

    private void wipe() {
        due("wipe", x.wipe(), y.wipe());
    }

    private void say(int sign) {
        due("say " + sign, x.say(sign), y.say(sign));
    }

    private void buildOne() {
        int r = 1 + random.nextInt(4);
        int k = 1 + random.nextInt(4);
        if (random.nextInt(3) > 0) {
            r = 4 - random.nextInt(2);
            k = 4 - random.nextInt(2);
        }
        due("house", x.house(r, k), y.house(r, k));
        wipe();
        String kinds = new String[] {".gcd#", "..gcd", ".gggd", ".....cg#", "#######.", "dd.#", "cc..#"}[random.nextInt(7)];
        for (int i = 0; i < r * k; i++) {
            say(kinds.charAt(random.nextInt(kinds.length())));
        }
        if (random.nextInt(20) == 0) {
            say('.');
        }
        due("fault", x.fault(0), y.fault(0));
        due("build", x.build(), y.build());
    }

    /** Steps that can be for the most part, and what depends on them. */
    private void walkOne() {
        wipe();
        int n = random.nextInt(6) == 0 ? 40 : random.nextInt(16);
        StringBuilder walk = new StringBuilder();
        for (int tries = 0; tries < 200 && walk.length() < n; tries++) {
            walk.append("nesw-".charAt(random.nextInt(5)));
            if (!y.canBe(walk.toString()) && random.nextInt(60) > 0) {
                walk.setLength(walk.length() - 1);
            }
        }
        for (int i = 0; i < walk.length() && calls < CALLS - 20; i++) {
            say(walk.charAt(i));
        }
        for (int what = 0; what <= 5; what++) {
            due("judge " + what, x.judge(what), y.judge(what));
        }
        int w = number(0, 10);
        due("wind " + w, x.wind(w, 0), y.wind(w, 0));
        due("wind " + w, x.wind(w, 1), y.wind(w, 1));
        meetOne();
    }

    private void meetOne() {
        int n = number(0, 8);
        int most = n >= 0 && n <= 8 ? (int) Math.round(Math.pow(5, n)) - 1 : 5;
        int steps = number(0, most);
        due("meet " + steps + " " + n, x.meet(steps, n), y.meet(steps, n));
    }

    private void whereOne() {
        int n = random.nextInt(8) == 0 ? number(0, 8) : number(0, 4);
        int most = n >= 0 && n <= 8 ? (1 << n) - 1 : 5;
        int shown = number(0, most);
        int what = number(0, 1);
        due("where " + shown + " " + n + " " + what, x.where(shown, n, what), y.where(shown, n, what));
    }

    private void nightOne() {
        int seed = number(0, 9999);
        int n = number(0, 99);
        int what = number(0, 2);
        due("night " + seed + " " + n + " " + what, x.night(seed, n, what), y.night(seed, n, what));
    }

    private void one(int kind) {
        int a = number(0, 5);
        int b = number(0, 1);
        int c = number(0, 15);
        int look = number(0, 3);
        boolean dog = random.nextInt(4) == 0;
        switch (kind) {
            case 0: if (random.nextInt(6) == 0) { due("house", x.house(a, look), y.house(a, look)); } break;
            case 1: say(number(33, 126)); break;
            case 2: say(".gcd#nesw-".charAt(random.nextInt(10))); break;
            case 3: due("fault " + b, x.fault(b), y.fault(b)); break;
            case 4: due("build", x.build(), y.build()); break;
            case 5: due("cell " + c, x.cell(c), y.cell(c)); break;
            case 6: due("place", x.place(b, c), y.place(b, c)); break;
            case 7:
            case 8: due("watch", x.watch(c, look, dog), y.watch(c, look, dog)); break;
            case 9: if (random.nextInt(3) == 0) { due("dismiss", x.dismiss(), y.dismiss()); } break;
            case 10: due("ears", x.ears(a), y.ears(a)); break;
            case 11: due("judge " + a, x.judge(a), y.judge(a)); break;
            case 12: due("sees " + look, x.sees(look), y.sees(look)); break;
            case 13: due("bare", x.bare(), y.bare()); break;
            case 14: due("safe", x.safe(-1), y.safe(-1)); break;
            case 15: due("safe " + c, x.safe(c), y.safe(c)); break;
            case 16: due("least " + b, x.least(b), y.least(b)); break;
            case 17: if (random.nextInt(4) == 0) { due("flour " + b, x.flour(b), y.flour(b)); } break;
            case 18: due("post " + b, x.post(b), y.post(b)); break;
            case 19: meetOne(); break;
            case 20: whereOne(); break;
            case 21: due("wind", x.wind(a, b), y.wind(a, b)); break;
            case 22: nightOne(); break;
            case 23: due("image " + b, x.image(b), y.image(b)); break;
            case 24: due("restore " + b, x.restore(b), y.restore(b)); break;
            default: int t = number(0, 55); due("told " + t, x.told(t), y.told(t)); break;
        }
    }
}
