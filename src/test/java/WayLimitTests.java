/**
 * As LimitTests, of promises 15 to 25: ways, flour, posts, where, wind, nights, images.
 */
final class WayLimitTests {
    private static final int LEAST_INT = Integer.MIN_VALUE;
    private static final int MOST_INT = Integer.MAX_VALUE;
    private static final int[] NOT_ZERO_OR_ONE = {-1, 2, LEAST_INT, MOST_INT};

    static void run(Checks c) {
        stepsOfTheSafeWay(c);
        safeInOneCell(c);
        theDoorIsNotLookedAtTheThingIs(c);
        theFirstWayByNorthEastSouthWest(c);
        noSafeWay(c);
        leastCountsTheThingNotTheDoor(c);
        leastWhereThereIsNoWay(c);
        flourWhereThereIsNone(c);
        flourWhereNoneIsNeeded(c);
        flourIsTheFewestThenTheLeast(c);
        aPostWhereThereAreFour(c);
        theLeastPost(c);
        meetingsAreToldByNoMoreThanEightSteps(c);
        meetingsAreInMinutesThatBothHave(c);
        whatTheSecondCanNotItStays(c);
        meetingOrChanging(c);
        whereIsToldOfNoMoreThanEightMinutes(c);
        whereTheFirstMinuteIsTheLowest(c);
        whereItMayStep(c);
        tenthsAreZeroToTen(c);
        twelveMinutesByGrassAlone(c);
        grassAloneIsNoOtherReason(c);
        seedsAndMinutesOfANight(c);
        drawsAreLeftOverBy65537(c);
        whatTheNightCountsAndShows(c);
        twoImages(c);
        imagesKeepAllButThePad(c);
        toldOfNoMore(c);
    }

    private static CapHouse house(int rows, int columns, String signs) {
        CapHouse x = new CapHouse();
        x.house(rows, columns);
        Checks.say(x, signs);
        x.build();
        return x;
    }

    private static CapHouse placed(CapHouse x, int door, int thing) {
        x.place(0, door);
        x.place(1, thing);
        return x;
    }

    // ---- 3 ways, flour, posts

    private static void safely(Checks c, String what, CapHouse x, String steps) {
        c.due("15 " + what + ": minutes", x.safe(-1), steps.length());
        for (int i = 0; i < steps.length(); i++) {
            c.due("15 " + what + ": step " + i, x.safe(i), steps.charAt(i));
        }
        for (int none : new int[] {steps.length(), steps.length() + 1, -2, LEAST_INT, MOST_INT}) {
            c.due("15 " + what + ": no step " + none, x.safe(none), -6);
        }
    }

    private static void stepsOfTheSafeWay(Checks c) {
        safely(c, "the nearest", placed(new CapHouse(), 0, 1), "ew");
        safely(c, "the nearest below", placed(new CapHouse(), 4, 7), "sn");
        CapHouse x = house(4, 4, "...." + "###." + "...." + ".###");
        safely(c, "round and round", placed(x, 0, 12), "eeesswwws" + "neeennwww");
        x = house(4, 4, ".#.." + ".#.#" + ".#.#" + "...#");
        safely(c, "from corner to corner", placed(x, 0, 3), "ssseennne" + "wssswwnnn");
        x = house(4, 4, "..#." + "#.#." + "..#." + ".###");
        safely(c, "in a part of the house", placed(x, 12, 0), "nennw" + "essws");
    }

    private static void safeInOneCell(Checks c) {
        CapHouse x = house(1, 1, "d");
        x.watch(0, 0, true);
        c.due("14 nothing is bare", x.bare(), 0);
        safely(c, "door and thing are one", x, "");
        x = placed(new CapHouse(), 4, 4);
        safely(c, "one in the middle", x, "");
    }

    private static void theDoorIsNotLookedAtTheThingIs(Checks c) {
        CapHouse x = house(1, 3, "d.d");
        x.watch(0, 3, false);
        c.due("14 the door is not bare", x.bare(), 6);
        safely(c, "the door is not looked at", x, "eeww");
        x.dismiss();
        x.watch(2, 1, false);
        c.due("14 the thing is not bare", x.bare(), 3);
        safely(c, "the thing in its turn", placed(x, 2, 0), "wwee");
        c.due("15 the thing is looked at", placed(x, 0, 2).safe(-1), -6);
        c.due("15 no first step either", x.safe(0), -6);
        x.dismiss();
        c.due("15 nobody watches", x.safe(-1), 4);
        x = house(1, 3, "...");
        placed(x, 1, 1);
        x.watch(1, 0, true);
        safely(c, "the thing is the door", x, "");
    }

    private static void theFirstWayByNorthEastSouthWest(Checks c) {
        safely(c, "north ahead of east, east ahead of south", placed(new CapHouse(), 6, 2), "nnee" + "ssww");
        safely(c, "east ahead of south, north ahead of west", placed(new CapHouse(), 0, 8), "eess" + "nnww");
        safely(c, "south ahead of west, north ahead of east", placed(new CapHouse(), 2, 6), "ssww" + "nnee");
        safely(c, "north ahead of west, east ahead of south", placed(new CapHouse(), 8, 0), "nnww" + "eess");
        CapHouse x = house(3, 3, "..." + ".#." + "...");
        safely(c, "the first of two round a wall", placed(x, 3, 5), "nees" + "nwws");
        x = house(3, 3, ".g." + "..." + "...");
        x.watch(1, 0, false);
        safely(c, "not the first, that shows", x, "sees" + "nwwn");
    }

    private static void noSafeWay(Checks c) {
        CapHouse x = house(2, 2, ".##.");
        c.due("15 walls", x.safe(-1), -6);
        for (int i : new int[] {0, 1, -2, LEAST_INT, MOST_INT}) {
            c.due("15 no step " + i, x.safe(i), -6);
        }
        x = house(1, 3, ".d.");
        x.watch(1, 1, false);
        c.due("15 seen dust between", x.safe(-1), -6);
        c.due("16 a way that shows", x.least(1), 4);
    }

    private static void leasts(Checks c, String what, CapHouse x, int steps, int minutes) {
        c.due("16 " + what + ": steps", x.least(0), steps);
        c.due("16 " + what + ": minutes", x.least(1), minutes);
    }

    private static void leastCountsTheThingNotTheDoor(Checks c) {
        CapHouse x = house(1, 2, "dd");
        leasts(c, "nobody watches", x, 0, 2);
        x.watch(1, 3, false);
        leasts(c, "the thing's step, not the last one to the door", x, 1, 2);
        x = house(1, 3, "ddd");
        x.watch(2, 3, false);
        leasts(c, "there, the thing, back", x, 3, 4);
        x = house(1, 4, "dddd");
        x.watch(3, 3, false);
        leasts(c, "five of six", x, 5, 6);
        x = house(1, 1, "d");
        x.watch(0, 0, true);
        leasts(c, "one cell, no step", x, 0, 0);
        x = house(2, 2, "d..#");
        x.watch(0, 0, false);
        leasts(c, "the first cell between", placed(x, 1, 2), 2, 4);
        x = house(2, 2, "#..d");
        x.watch(3, 0, false);
        leasts(c, "the last cell between", placed(x, 1, 2), 2, 4);
        x = house(4, 4, "..gg" + "#g.." + "...." + "....");
        x.watch(1, 2, false);
        x.watch(2, 1, false);
        leasts(c, "the barest of the shortest, both ways", x, 2, 12);
        x = house(2, 3, ".d." + "...");
        x.watch(1, 0, false);
        leasts(c, "not a longer one that shows less", placed(x, 0, 2), 2, 4);
    }

    private static void leastWhereThereIsNoWay(Checks c) {
        CapHouse x = house(2, 2, ".##.");
        leasts(c, "no way", x, -6, -6);
        leasts(c, "one cell", placed(x, 3, 3), 0, 0);
        for (int what : NOT_ZERO_OR_ONE) {
            c.due("16 least(" + what + ")", x.least(what), -2);
        }
    }

    private static void floured(Checks c, String what, CapHouse x, int many, int set) {
        c.due("17 " + what + ": how many", x.flour(0), many);
        c.due("17 " + what + ": which", x.flour(1), set);
    }

    private static void flourWhereThereIsNone(Checks c) {
        for (int thing : new int[] {1, 3, 5, 7}) {
            floured(c, "side by side", placed(new CapHouse(), 4, thing), -6, -6);
            floured(c, "side by side, the other way", placed(new CapHouse(), thing, 4), -6, -6);
        }
        for (int cell = 0; cell < 9; cell++) {
            floured(c, "one", placed(new CapHouse(), cell, cell), -6, -6);
        }
        floured(c, "at a corner of each other", placed(new CapHouse(), 0, 4), 2, 1 << 1 | 1 << 3);
        floured(c, "two apart in a row", placed(new CapHouse(), 0, 2), 2, 1 << 1 | 1 << 3);
        floured(c, "the end of a row and the next row's first", placed(new CapHouse(), 2, 3), 2, 1 << 1 | 1 << 5);
        CapHouse x = new CapHouse();
        for (int what : NOT_ZERO_OR_ONE) {
            c.due("17 flour(" + what + ")", x.flour(what), -2);
        }
    }

    private static void flourWhereNoneIsNeeded(Checks c) {
        floured(c, "no way anyhow", house(1, 3, ".#."), 0, 0);
        floured(c, "no way at a corner", house(2, 2, ".##."), 0, 0);
        floured(c, "one way", house(1, 3, "..."), 1, 2);
        floured(c, "one way round", house(2, 2, ".#.."), 1, 1 << 2);
        CapHouse x = house(1, 3, "...");
        x.watch(1, 1, true);
        floured(c, "that nothing is bare is no matter", x, 1, 2);
    }

    private static void flourIsTheFewestThenTheLeast(Checks c) {
        floured(c, "the least of three", house(1, 4, "...."), 1, 2);
        CapHouse x = house(4, 4, "................");
        floured(c, "four", placed(x, 5, 10), 4, 1 << 1 | 1 << 4 | 1 << 6 | 1 << 9);
        floured(c, "four, the other way", placed(x, 10, 5), 4, 1 << 1 | 1 << 4 | 1 << 6 | 1 << 9);
        floured(c, "two at the far corner", placed(x, 5, 15), 2, 1 << 11 | 1 << 14);
        floured(c, "three at an edge", placed(x, 1, 14), 3, 1 << 0 | 1 << 2 | 1 << 5);
        x = house(4, 4, "...." + ".##." + ".##." + "....");
        floured(c, "a cell on either side", x, 2, 1 << 1 | 1 << 4);
        x = house(3, 3, "..." + "#.#" + "...");
        floured(c, "neither door nor thing", placed(x, 0, 7), 1, 1 << 1);
        floured(c, "the only one between", placed(x, 1, 7), 1, 1 << 4);
    }

    private static void aPostWhereThereAreFour(Checks c) {
        CapHouse x = house(1, 3, "gg.");
        for (int many = 0; many < 4; many++) {
            c.due("18 where, there are " + many, x.post(0), many == 0 ? 1 : 0);
            c.due("18 how many then, there are " + many, x.post(1), 1);
            x.watch(1, 3, false);
        }
        c.due("18 there are four", x.post(0), -4);
        c.due("18 there are four", x.post(1), -4);
        x.dismiss();
        c.due("18 there are none", x.post(1), 1);
        for (int what : NOT_ZERO_OR_ONE) {
            c.due("18 post(" + what + ")", x.post(what), -2);
        }
    }

    private static void posted(Checks c, String what, CapHouse x, int cell, int looking, int left) {
        c.due("18 " + what + ": where", x.post(0), 4 * cell + looking);
        c.due("18 " + what + ": how many then", x.post(1), left);
    }

    private static void theLeastPost(Checks c) {
        posted(c, "nothing shows", new CapHouse(), 0, 0, 9);
        posted(c, "nor in the largest house", house(4, 4, ".".repeat(16)), 0, 0, 16);
        posted(c, "one cell of the largest house", house(4, 4, ".".repeat(15) + "g"), 3, 2, 15);
        posted(c, "nor in a single cell", house(1, 1, "."), 0, 0, 1);
        posted(c, "a single cell of grass", house(1, 1, "g"), 0, 0, 0);
        posted(c, "not in a wall", house(2, 2, "###."), 3, 0, 1);
        posted(c, "the least way of looking", house(2, 2, "dddd"), 0, 1, 2);
        posted(c, "the last cell, west", house(1, 4, "#.gd"), 1, 1, 1);
        posted(c, "looking south", house(3, 1, ".dd"), 0, 2, 1);
        posted(c, "the last post of all", house(1, 3, "gg#"), 0, 1, 0);
        CapHouse x = house(1, 4, "c..c");
        posted(c, "one board is heard", x, 0, 0, 3);
        x.ears(3);
        posted(c, "two boards are heard", x, 0, 0, 2);
        x.ears(2);
        posted(c, "both from beside one of them", x, 1, 0, 2);
        x.ears(1);
        posted(c, "both from none", x, 0, 0, 3);
        x.watch(0, 0, false);
        posted(c, "the other board is left", x, 2, 0, 2);
        x.ears(0);
        posted(c, "only upon it", x, 3, 0, 2);
    }

    private static int power(int base, int exponent) {
        return exponent == 0 ? 1 : base * power(base, exponent - 1);
    }

    private static void meetingsAreToldByNoMoreThanEightSteps(Checks c) {
        CapHouse x = new CapHouse();
        for (int n = 0; n <= 8; n++) {
            int numbers = power(5, n);
            c.due("19 the least number of " + n, x.meet(0, n), -6);
            c.due("19 the greatest number of " + n, x.meet(numbers - 1, n), -6);
            c.due("19 one more than the greatest of " + n, x.meet(numbers, n), -2);
            c.due("19 below the least of " + n, x.meet(-1, n), -2);
            c.due("19 far", x.meet(LEAST_INT, n), -2);
            c.due("19 far", x.meet(MOST_INT, n), -2);
        }
        for (int n : new int[] {-1, 9, 13, 14, LEAST_INT, MOST_INT}) {
            c.due("19 n " + n, x.meet(0, n), -2);
            c.due("19 n " + n + " and the number", x.meet(-1, n), -2);
        }
    }

    private static void meets(Checks c, String what, CapHouse x, String walk, String digits, int due) {
        Checks.walk(x, walk);
        int steps = digits.isEmpty() ? 0 : Integer.parseInt(digits, 5);
        c.due("19 " + what + " '" + walk + "' " + digits, x.meet(steps, digits.length()), due);
    }

    private static void meetingsAreInMinutesThatBothHave(Checks c) {
        CapHouse x = placed(house(1, 2, ".."), 0, 1);
        meets(c, "no step of either", x, "", "", -6);
        meets(c, "no step of the first", x, "", "3", -6);
        meets(c, "no step of the second", x, "e", "", -6);
        meets(c, "one of each", x, "e", "4", 0);
        meets(c, "the first minute of more", x, "e-", "444", 0);
        meets(c, "the first has fewer", x, "--", "443", -6);
        meets(c, "the second has fewer", x, "--e", "44", -6);
        meets(c, "the last of both", x, "--e", "444", 2);
        meets(c, "the last of eight", x, "-------e", "44444444", 7);
        meets(c, "the last of eight, by the second", x, "--------", "44444443", 7);
        meets(c, "a ninth minute of the first alone", x, "--------e", "44444444", -6);
        meets(c, "a step that can not be, in its minutes", x, "-n", "44", -3);
        meets(c, "a step that can not be, behind its minutes", x, "-n", "4", -3);
        meets(c, "a fault", x, "-x", "4", -5);
    }

    private static void whatTheSecondCanNotItStays(Checks c) {
        CapHouse x = new CapHouse();
        for (int step = 0; step < 4; step++) {
            int corner = new int[] {0, 2, 8, 6}[step];
            int from = new int[] {1, 1, 7, 7}[step];
            placed(x, from, corner);
            String to = step == 0 || step == 3 ? "w" : "e";
            meets(c, "beyond the house", x, to, String.valueOf(step), 0);
        }
        x = house(3, 3, "..." + ".#." + "...");
        for (int step = 0; step < 4; step++) {
            int at = new int[] {7, 3, 1, 5}[step];
            int from = new int[] {6, 0, 0, 2}[step];
            placed(x, from, at);
            meets(c, "a wall", x, step % 2 == 0 ? "e" : "s", String.valueOf(step), 0);
        }
    }

    private static void meetingOrChanging(Checks c) {
        CapHouse x = placed(house(1, 4, "...."), 0, 3);
        meets(c, "in one cell", x, "ee", "43", 1);
        meets(c, "they change cells", x, "ee", "33", 1);
        meets(c, "they come side by side", x, "e-", "34", -6);
        meets(c, "one comes where the other was", x, "e-e", "314", -6);
        meets(c, "the second flees", placed(x, 0, 1), "ee", "11", -6);
        meets(c, "one cell at first, both stay", placed(x, 1, 1), "-", "4", 0);
        meets(c, "one cell at first, one goes", x, "-", "1", -6);
        meets(c, "one cell at first, the first goes", x, "e", "4", -6);
        meets(c, "one cell at first, both go", x, "e", "1", 0);
        meets(c, "one cell at first, they part", x, "e", "3", -6);
        meets(c, "the highest digit first", placed(x, 0, 3), "eee", "344", 1);
        meets(c, "the lowest digit last", x, "eee", "443", 2);
        x = placed(house(2, 2, "...."), 0, 2);
        meets(c, "they change cells up and down", x, "s", "0", 0);
    }

    // ---- 4 where, wind, nights

    private static void whereIsToldOfNoMoreThanEightMinutes(Checks c) {
        CapHouse x = house(1, 1, "d");
        x.watch(0, 0, false);
        for (int n = 0; n <= 8; n++) {
            int numbers = power(2, n);
            c.due("20 all bits of " + n + ", cells", x.where(numbers - 1, n, 0), 1);
            c.due("20 all bits of " + n + ", walks", x.where(numbers - 1, n, 1), 1);
            c.due("20 no bit of " + n, x.where(0, n, 1), n == 0 ? 1 : 0);
            c.due("20 a bit beyond " + n, x.where(numbers, n, 0), -2);
            c.due("20 a bit beyond " + n, x.where(numbers, n, 1), -2);
            c.due("20 below " + n, x.where(-1, n, 0), -2);
            c.due("20 far", x.where(LEAST_INT, n, 0), -2);
            c.due("20 far", x.where(MOST_INT, n, 0), -2);
        }
        for (int n : new int[] {-1, 9, 31, 32, LEAST_INT, MOST_INT}) {
            c.due("20 n " + n, x.where(0, n, 0), -2);
            c.due("20 n " + n, x.where(-1, n, 1), -2);
        }
        for (int what : NOT_ZERO_OR_ONE) {
            c.due("20 what " + what, x.where(0, 0, what), -2);
        }
    }

    private static void wheres(Checks c, String what, CapHouse x, int shown, int n, int cells, int walks) {
        c.due("20 " + what + ": cells", x.where(shown, n, 0), cells);
        c.due("20 " + what + ": walks", x.where(shown, n, 1), walks);
    }

    private static void whereTheFirstMinuteIsTheLowest(Checks c) {
        CapHouse x = house(1, 2, ".d");
        x.watch(1, 3, false);
        wheres(c, "the first minute not bare, the second bare", x, 1, 2, 1, 1);
        wheres(c, "the first minute bare, the second not", x, 2, 2, 2, 1);
        wheres(c, "the eighth alone", x, 128, 8, 2, 1);
        wheres(c, "all but the eighth", x, 127, 8, 1, 1);
        wheres(c, "the door is bare though nothing is told of it", x, 1, 1, 2, 1);
        x.place(0, 1);
        wheres(c, "the door is not bare though nothing is told of it", x, 0, 1, 1, 1);
        wheres(c, "no minute", x, 0, 0, 2, 1);
    }

    private static void whereItMayStep(Checks c) {
        CapHouse x = house(1, 3, ".#.");
        wheres(c, "between walls", x, 0, 8, 1, 1);
        wheres(c, "nowhere", x, 1, 1, 0, 0);
        wheres(c, "nowhere ever after", x, 1, 8, 0, 0);
        x = new CapHouse();
        wheres(c, "a minute in the corner", x, 0, 1, 1 | 2 | 8, 3);
        x.place(0, 4);
        wheres(c, "a minute in the middle", x, 0, 1, 2 | 8 | 16 | 32 | 128, 5);
        wheres(c, "two minutes", x, 0, 2, 511, 21);
        x.house(4, 4);
        x.place(0, 5);
        wheres(c, "the most walks", x, 0, 8, 65535, walksFrom(5, 8));
    }

    /** How many walks of so many minutes there are in a house of four by four, one by one. */
    private static int walksFrom(int cell, int minutes) {
        if (minutes == 0) {
            return 1;
        }
        return walksFrom(cell, minutes - 1)
            + (cell >= 4 ? walksFrom(cell - 4, minutes - 1) : 0)
            + (cell < 12 ? walksFrom(cell + 4, minutes - 1) : 0)
            + (cell % 4 > 0 ? walksFrom(cell - 1, minutes - 1) : 0)
            + (cell % 4 < 3 ? walksFrom(cell + 1, minutes - 1) : 0);
    }

    private static void chance(Checks c, String what, CapHouse x, int w, long upper, long lower) {
        c.due("21 " + what + " by " + w + ": upper", x.wind(w, 0), upper);
        c.due("21 " + what + " by " + w + ": lower", x.wind(w, 1), lower);
    }

    private static void tenthsAreZeroToTen(Checks c) {
        CapHouse x = house(1, 2, ".g");
        x.watch(1, 3, false);
        Checks.walk(x, "e");
        long[] uppers = {0, 1, 1, 3, 2, 1, 3, 7, 4, 9, 1};
        long[] lowers = {1, 10, 5, 10, 5, 2, 5, 10, 5, 10, 1};
        for (int w = 0; w <= 10; w++) {
            chance(c, "one minute", x, w, uppers[w], lowers[w]);
        }
        for (int w : new int[] {-1, 11, LEAST_INT, MOST_INT}) {
            c.due("21 w " + w, x.wind(w, 0), CapHouse.GONE - 2);
            c.due("21 w " + w, x.wind(w, 1), CapHouse.GONE - 2);
        }
        for (int part : NOT_ZERO_OR_ONE) {
            c.due("21 part " + part, x.wind(5, part), CapHouse.GONE - 2);
        }
        Checks.walk(x, "-");
        for (int w = 0; w <= 10; w++) {
            chance(c, "no minute that shows", x, w, 1, 1);
        }
    }

    private static void twelveMinutesByGrassAlone(Checks c) {
        CapHouse x = house(1, 2, "gg");
        x.watch(1, 3, false);
        Checks.walk(x, "ewewewewewew");
        c.due("12 twelve minutes", x.judge(4), 12);
        chance(c, "twelve", x, 0, 0, 1);
        chance(c, "twelve", x, 1, 1, 1000000000000L);
        chance(c, "twelve", x, 2, 1, 244140625L);
        chance(c, "twelve", x, 5, 1, 4096);
        chance(c, "twelve", x, 7, 13841287201L, 1000000000000L);
        chance(c, "twelve", x, 9, 282429536481L, 1000000000000L);
        chance(c, "twelve", x, 10, 1, 1);
        Checks.walk(x, "-".repeat(28) + "ewewewewewew");
        chance(c, "twelve at the end", x, 5, 1, 4096);
        Checks.walk(x, "ewewewewewewe");
        c.due("12 thirteen minutes", x.judge(4), 13);
        for (int w = 0; w <= 10; w++) {
            c.due("21 thirteen", x.wind(w, 0), CapHouse.GONE - 4);
            c.due("21 thirteen", x.wind(w, 1), CapHouse.GONE - 4);
        }
        Checks.walk(x, "ew".repeat(20));
        c.due("21 forty", x.wind(5, 0), CapHouse.GONE - 4);
    }

    private static void grassAloneIsNoOtherReason(Checks c) {
        CapHouse x = house(1, 4, "gg.d");
        x.watch(3, 3, false);
        Checks.walk(x, "ew".repeat(6) + "eee" + "-".repeat(9));
        c.due("12 thirteen by grass, ten by dust", x.judge(4), 23);
        c.due("21 thirteen by grass, then dust", x.wind(5, 0), CapHouse.GONE - 4);
        Checks.walk(x, "ew".repeat(5) + "eee" + "-".repeat(9));
        c.due("12 eleven by grass, ten by dust", x.judge(4), 21);
        chance(c, "eleven by grass, then dust", x, 5, 0, 1);
        x.place(0, 3);
        Checks.walk(x, "www" + "ew".repeat(15));
        chance(c, "grass behind dust is not by 1 alone", x, 10, 0, 1);
        x = house(1, 3, ".gg");
        x.watch(2, 3, false);
        x.watch(0, 3, true);
        Checks.walk(x, "-" + "ew".repeat(3));
        c.due("12 a dog at the door", x.judge(4), 7);
        chance(c, "a dog knows in wind, too", x, 10, 0, 1);
        x.dismiss();
        x.watch(2, 3, false);
        chance(c, "no dog", x, 10, 1, 1);
    }

    private static void seedsAndMinutesOfANight(Checks c) {
        CapHouse x = new CapHouse();
        for (int seed : new int[] {-1, 10000, LEAST_INT, MOST_INT}) {
            c.due("22 seed " + seed, x.night(seed, 0, 0), -2);
        }
        for (int n : new int[] {-1, 100, LEAST_INT, MOST_INT}) {
            c.due("22 n " + n, x.night(0, n, 0), -2);
        }
        for (int what : new int[] {-1, 3, LEAST_INT, MOST_INT}) {
            c.due("22 what " + what, x.night(0, 0, what), -2);
        }
        nights(c, "the least seed, no minute", x, 0, 0, 0, 0, 1);
        nights(c, "the greatest seed, no minute", x, 9999, 0, 0, 0, 1);
        nights(c, "the least seed, most minutes", x, 0, 99, 0, 4, 9);
        nights(c, "the greatest seed, a minute less", x, 9999, 98, 0, 8, 9);
        nights(c, "the greatest seed, most minutes", x, 9999, 99, 0, 7, 9);
        x = house(4, 4, "gcgc".repeat(4));
        x.watch(5, 1, false);
        x.watch(10, 3, false);
        nights(c, "watched, the greatest seed", x, 9999, 99, 37, 14, 14);
        nights(c, "watched, the least seed", x, 0, 99, 25, 5, 14);
    }

    private static void nights(Checks c, String what, CapHouse x, int seed, int n, int shown, int end, int cells) {
        c.due("22 " + what + ": minutes", x.night(seed, n, 0), shown);
        c.due("22 " + what + ": where it ends", x.night(seed, n, 1), end);
        c.due("22 " + what + ": cells", x.night(seed, n, 2), cells);
    }

    private static void drawsAreLeftOverBy65537(Checks c) {
        CapHouse x = new CapHouse();
        x.place(0, 4);
        nights(c, "75 times 872 and 74 is 65474: 4 stays", x, 872, 1, 0, 4, 1);
        nights(c, "75 times 873 and 74 leaves 12: 2 south", x, 873, 1, 0, 7, 2);
        nights(c, "75 times 1747 and 74 leaves 25: 0 north", x, 1747, 1, 0, 1, 2);
        nights(c, "75 times 2621 and 74 leaves 38: 3 west", x, 2621, 1, 0, 3, 2);
        nights(c, "75 times 3495 and 74 leaves 51: 1 east", x, 3495, 1, 0, 5, 2);
    }

    private static void whatTheNightCountsAndShows(Checks c) {
        int[] seeds = {1747, 3495, 873, 2621};
        for (int step = 0; step < 4; step++) {
            CapHouse x = house(1, 1, "g");
            x.watch(0, 0, false);
            nights(c, "what can not be is no step in grass", x, seeds[step], 1, 0, 0, 1);
            x = house(1, 1, "c");
            x.watch(0, 0, false);
            nights(c, "nor on a board", x, seeds[step], 1, 0, 0, 1);
            x = house(3, 3, ".#.#.#.#.");
            x.place(0, 4);
            nights(c, "nor into a wall", x, seeds[step], 1, 0, 4, 1);
            x = house(3, 3, ".g.g.g.g.");
            x.place(0, 4);
            for (int looking = 0; looking < 4; looking++) {
                x.watch(4, looking, false);
            }
            nights(c, "a step into grass", x, seeds[step], 1, 1, new int[] {1, 5, 7, 3}[step], 2);
        }
        CapHouse x = house(1, 1, "d");
        x.watch(0, 0, false);
        nights(c, "dust at the door, no minute", x, 5, 0, 0, 0, 1);
        nights(c, "dust at the door, one minute", x, 5, 1, 1, 0, 1);
        nights(c, "dust at the door, most minutes", x, 5, 99, 99, 0, 1);
    }

    private static void twoImages(Checks c) {
        CapHouse x = new CapHouse();
        for (int n : NOT_ZERO_OR_ONE) {
            c.due("23 image(" + n + ")", x.image(n), -2);
            c.due("24 restore(" + n + ")", x.restore(n), -2);
        }
        c.due("24 none kept", x.restore(0), -3);
        c.due("24 none kept", x.restore(1), -3);
        c.due("23 the first", x.image(0), 1);
        c.due("24 the first", x.restore(0), 1);
        c.due("24 the second is not kept", x.restore(1), -3);
        x.house(1, 2);
        c.due("23 the second", x.image(1), 1);
        c.due("24 the first", x.restore(0), 1);
        c.due("24 the first house", x.told(1), 3);
        c.due("24 the second", x.restore(1), 1);
        c.due("24 the second house", x.told(1), 1);
        x.house(4, 1);
        c.due("23 the first anew", x.image(0), 1);
        x.house(2, 2);
        c.due("24 the second is as it was", x.restore(1), 1);
        c.due("24 the second house", x.told(2), 2);
        c.due("24 the first anew", x.restore(0), 1);
        c.due("24 the first house anew", x.told(1), 4);
        CapHouse y = new CapHouse();
        y.image(1);
        c.due("24 only the second", y.restore(0), -3);
    }

    private static void imagesKeepAllButThePad(Checks c) {
        CapHouse x = house(1, 4, "#gcd");
        x.watch(3, 3, true);
        x.watch(1, 2, false);
        x.ears(6);
        x.place(0, 2);
        x.place(1, 1);
        Checks.say(x, "we");
        x.image(1);
        x.house(4, 4);
        x.ears(0);
        x.watch(0, 0, false);
        x.watch(0, 1, true);
        x.watch(0, 2, false);
        x.say('-');
        c.due("24 kept", x.restore(1), 1);
        int[] due = {3, 1, 4, 2, 1, 2, 6, -2, -2, -2, 3, 3, 1, -2, -2, -2, -2, -2, -2, -2, 1, 2, 0, -2};
        for (int what = 0; what < due.length; what++) {
            c.due("24 told(" + what + ")", x.told(what), due[what]);
        }
        c.due("24 no third watcher", x.told(30), -2);
        for (int cell = 0; cell < 4; cell++) {
            c.due("24 cell " + cell, x.cell(cell), "#gcd".charAt(cell));
        }
        c.due("24 no fifth cell", x.cell(4), -1);
        c.due("12 the pad's walk in it", x.judge(0), -6);
        c.due("12 the pad's walk in it", x.judge(3), 1);
        c.due("12 the pad's walk in it", x.judge(4), 3);
        x.wipe();
        c.due("24 once more", x.restore(1), 1);
        c.due("24 the pad stays wiped", x.told(0), 0);
    }

    private static void toldOfNoMore(Checks c) {
        CapHouse x = new CapHouse();
        int[] due = {0, 3, 3, 0, 8, 0, 1};
        for (int what = -60; what <= 60; what++) {
            c.due("25 nobody watches, told(" + what + ")", x.told(what), what >= 0 && what <= 6 ? due[what] : -2);
        }
        for (int w = 0; w < 4; w++) {
            x.watch(8 - w, 3 - w, w > 1);
        }
        for (int what = 7; what <= 69; what++) {
            int w = what / 10 - 1;
            int kind = w >= 0 && w <= 3 ? what % 10 : 9;
            int told = kind == 0 ? 8 - w : kind == 1 ? 3 - w : kind == 2 ? w / 2 : -2;
            c.due("25 four watch, told(" + what + ")", x.told(what), told);
        }
        for (int far : new int[] {LEAST_INT, MOST_INT, -10, -9, -1, 2147483640, -2147483640}) {
            c.due("25 told(" + far + ")", x.told(far), -2);
        }
    }
}
