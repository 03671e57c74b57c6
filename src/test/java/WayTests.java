/** Promises 15 to 19. */
final class WayTests {
    static void run(Checks c) {
        promise15(c);
        promise16(c);
        promise17(c);
        promise18(c);
        promise19(c);
    }

    private static void safely(Checks c, String what, CapHouse x, String steps) {
        c.due("15 " + what + " minutes", x.safe(-1), steps.length());
        for (int i = 0; i < steps.length(); i++) {
            c.due("15 " + what + " step " + i, x.safe(i), steps.charAt(i));
        }
        c.due("15 " + what + " no more", x.safe(steps.length()), -6);
        c.due("15 no such step", x.safe(-2), -6);
        c.due("15 no such step", x.safe(Integer.MAX_VALUE), -6);
        c.due("15 no such step", x.safe(Integer.MIN_VALUE), -6);
    }

    private static void promise15(Checks c) {
        CapHouse x = new CapHouse();
        safely(c, "three by three", x, "eessnnww");
        x.place(1, 0);
        safely(c, "one cell", x, "");
        x.place(0, 6);
        x.place(1, 2);
        safely(c, "up", x, "nneessww");
        x = Checks.built(".#. ...");
        x.place(1, 2);
        safely(c, "round a wall", x, "seenswwn");
        x = Checks.built(".#.");
        c.due("15 no way", x.safe(-1), -6);
        c.due("15 no way, no step", x.safe(0), -6);
        x = Checks.built("... .g. ...");
        x.watch(4, 1, false);
        safely(c, "round seen grass", x, "eessnnww");
        x.place(1, 4);
        c.due("15 the thing is looked at", x.safe(-1), -6);
        x.place(1, 5);
        x.place(0, 4);
        safely(c, "the door is not looked at", x, "ew");
        x.place(1, 4);
        c.due("15 at once", x.safe(-1), 0);
        x.place(1, 3);
        safely(c, "west", x, "we");
        x = Checks.built("...c .... .... ....");
        x.watch(3, 1, false);
        safely(c, "round a board", x, "eesessnnwnww");
        x.watch(0, 0, true);
        c.due("15 a dog shuts the ways", x.safe(-1), -6);
    }

    private static void promise16(Checks c) {
        CapHouse x = new CapHouse();
        c.due("16 outside", x.least(2), -2);
        c.due("16 outside", x.least(-1), -2);
        c.due("16 nothing", x.least(0), 0);
        c.due("16 minutes", x.least(1), 8);
        x.watch(4, 0, true);
        c.due("16 both ways by the edge", x.least(0), 4);
        x.place(1, 4);
        c.due("16 the thing's cell once", x.least(0), 3);
        c.due("16 minutes", x.least(1), 4);
        x.place(1, 0);
        c.due("16 one cell", x.least(0), 0);
        c.due("16 one cell", x.least(1), 0);
        x.place(0, 4);
        x.place(1, 1);
        c.due("16 the door's cell never", x.least(0), 1);
        c.due("16 minutes", x.least(1), 2);
        x = Checks.built(".#.");
        c.due("16 no way", x.least(0), -6);
        c.due("16 no way", x.least(1), -6);
        c.due("16 outside before none", x.least(2), -2);
        x = Checks.built("... ggg ... g#g");
        x.watch(5, 3, false);
        c.due("16 a shortest way, showing", x.least(0), 2);
        x.place(1, 6);
        c.due("16 not a longer one", x.least(1), 4);
        c.due("16 through the grass", x.least(0), 2);
        x = Checks.built("..g. .g.. .... ....");
        x.watch(2, 2, false);
        x.watch(5, 0, false);
        c.due("16 of the shortest, the barest", x.least(0), 0);
    }

    private static void promise17(Checks c) {
        CapHouse x = new CapHouse();
        c.due("17 outside", x.flour(2), -2);
        c.due("17 outside", x.flour(-1), -2);
        c.due("17 corner", x.flour(0), 2);
        c.due("17 the least set", x.flour(1), 10);
        x.place(1, 1);
        c.due("17 side by side", x.flour(0), -6);
        c.due("17 side by side", x.flour(1), -6);
        x.place(1, 3);
        c.due("17 one below", x.flour(1), -6);
        x.place(1, 0);
        c.due("17 one", x.flour(0), -6);
        c.due("17 outside before none", x.flour(3), -2);
        x = Checks.built(".#.");
        c.due("17 none anyhow", x.flour(0), 0);
        c.due("17 the empty set", x.flour(1), 0);
        x = Checks.built("...");
        c.due("17 a passage", x.flour(1), 2);
        x = Checks.built(".... .... .... ....");
        x.place(0, 5);
        x.place(1, 10);
        c.due("17 four", x.flour(0), 4);
        c.due("17 which", x.flour(1), 1 << 1 | 1 << 4 | 1 << 6 | 1 << 9);
        x.place(0, 4);
        x.place(1, 7);
        c.due("17 three", x.flour(0), 3);
        c.due("17 least bits of as few", x.flour(1), 1 << 0 | 1 << 5 | 1 << 8);
        x.place(0, 3);
        x.place(1, 4);
        c.due("17 two at a corner", x.flour(0), 2);
        c.due("17 those", x.flour(1), 1 << 2 | 1 << 7);
        x.watch(5, 0, true);
        c.due("17 over any cells", x.flour(0), 2);
    }

    private static void promise18(Checks c) {
        CapHouse x = Checks.built(".gcd");
        c.due("18 outside", x.post(2), -2);
        c.due("18 outside", x.post(-1), -2);
        c.due("18 at 1, looking e", x.post(0), 1 * 4 + 1);
        c.due("18 bare then", x.post(1), 1);
        c.due("18 changes nothing", x.told(5), 0);
        x.ears(0);
        c.due("18 deaf", x.post(0), 1);
        c.due("18 deaf, left", x.post(1), 2);
        x.watch(2, 0, false);
        c.due("18 a second", x.post(0), 1);
        c.due("18 a second, left", x.post(1), 1);
        x.watch(2, 0, true);
        x.watch(2, 0, true);
        c.due("18 three are not full", x.post(0), 0);
        c.due("18 three, left", x.post(1), 1);
        x.watch(2, 0, true);
        c.due("18 full", x.post(0), -4);
        c.due("18 full", x.post(1), -4);
        c.due("18 outside before full", x.post(2), -2);
        x = Checks.built("#. ..");
        c.due("18 no walls", x.post(0), 4);
        c.due("18 no dog comes", x.post(1), 3);
    }

    private static void promise19(Checks c) {
        CapHouse x = new CapHouse();
        c.due("19 n", x.meet(0, 9), -2);
        c.due("19 n", x.meet(0, -1), -2);
        c.due("19 number", x.meet(1, 0), -2);
        c.due("19 number", x.meet(-1, 3), -2);
        c.due("19 number", x.meet(5, 1), -2);
        c.due("19 number", x.meet(390625, 8), -2);
        c.due("19 the greatest", x.meet(390624, 8), -6);
        c.due("19 no minute", x.meet(0, 0), -6);
        Checks.walk(x, "eess");
        c.due("19 at the thing", x.meet(624, 4), 3);
        c.due("19 the second has fewer", x.meet(124, 3), -6);
        c.due("19 the first has fewer", Checks.walk(x, "ees").meet(624, 4), -6);
        c.due("19 change cells", Checks.walk(x, "ee-s").meet(0 * 125 + 4 * 25 + 4 * 5 + 0, 4), 3);
        c.due("19 in one cell", Checks.walk(x, "ee").meet(0 * 5 + 0, 2), 1);
        c.due("19 pass by far", Checks.walk(x, "ee").meet(3 * 5 + 3, 2), -6);
        c.due("19 highest first", Checks.walk(x, "eess").meet(0 * 125 + 3 * 25 + 4 * 5 + 4, 4), -6);
        c.due("19 highest first", Checks.walk(x, "eess").meet(3 * 125 + 0 * 25 + 1 * 5 + 4, 4), 2);
        c.due("19 the second stays", Checks.walk(x, "eess").meet(1 * 125 + 2 * 25 + 1 * 5 + 2, 4), 3);
        x.place(1, 0);
        c.due("19 from one cell, apart", Checks.walk(x, "e").meet(2, 1), -6);
        c.due("19 from one cell, both stay", Checks.walk(x, "-").meet(4, 1), 0);
        c.due("19 the second can not", Checks.walk(x, "-").meet(0, 1), 0);
        c.due("19 step", Checks.walk(x, "eeee").meet(0, 1), -3);
        c.due("19 fault", Checks.walk(x, "nx").meet(0, 1), -5);
        c.due("19 outside first", x.meet(5, 1), -2);
        x = Checks.built("..#");
        x.place(1, 1);
        c.due("19 stays at a wall", Checks.walk(x, "e").meet(1, 1), 0);
        c.due("19 change", Checks.walk(x, "e").meet(3, 1), 0);
    }
}
