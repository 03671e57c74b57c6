/** Promises 12 to 14. */
final class WalkTests {
    static void run(Checks c) {
        promise12(c);
        reasons(c);
        promise13(c);
        promise14(c);
    }

    /** What is judged of a walk, each of the six. */
    private static void judged(Checks c, String what, CapHouse x, String steps, int... due) {
        Checks.walk(x, steps);
        for (int i = 0; i < due.length; i++) {
            c.due("12 " + what + " judge(" + i + ")", x.judge(i), due[i]);
        }
    }

    private static void promise12(Checks c) {
        CapHouse x = new CapHouse();
        c.due("12 outside", x.judge(6), -2);
        c.due("12 outside", x.judge(-1), -2);
        judged(c, "empty", x, "", -6, -6, -6, -6, 0, 0);
        judged(c, "beyond, north", x, "n", 0, -3, -3, -3, -3, -3);
        judged(c, "beyond, west", x, "esw-w", 4, -3, -3, -3, -3, -3);
        judged(c, "beyond, east", x, "eee", 2, -3, -3, -3, -3, -3);
        judged(c, "beyond, south", x, "s-ss", 3, -3, -3, -3, -3, -3);
        judged(c, "fault", x, "ex", -5, -5, -5, -5, -5, -5);
        c.due("12 outside before fault", x.judge(6), -2);
        judged(c, "fault before step", x, "nx", -5, -5);
        judged(c, "round", x, "eesswwnn", -6, -6, -6, -6, 0, 0);
        judged(c, "ends", x, "eess", -6, -6, -6, -6, 0, 8);
        x = Checks.built(".#. ...");
        judged(c, "wall", x, "e", 0, -3);
        judged(c, "wall from below", x, "sen", 2, -3);
        judged(c, "round the wall", x, "seen", -6, -6, -6, -6, 0, 2);
        x.place(0, 5);
        judged(c, "from the door", x, "w", -6, -6, -6, -6, 0, 4);
    }

    private static void reasons(Checks c) {
        CapHouse x = Checks.built(".gg.");
        x.watch(3, 3, false);
        judged(c, "grass", x, "e", -6, 0, 0, 1, 1, 1);
        judged(c, "standing in grass", x, "-e--e-", -6, 1, 0, 1, 2, 2);
        x.dismiss();
        x.watch(3, 1, false);
        judged(c, "grass not seen", x, "ee", -6, -6, -6, -6, 0, 2);
        x = Checks.built(".c.c");
        x.watch(2, 1, false);
        judged(c, "a board, heard", x, "e--w", -6, 0, 0, 2, 1, 0);
        x.ears(0);
        judged(c, "too far to hear", x, "e", -6, -6, -6, -6, 0, 1);
        x.watch(1, 1, false);
        judged(c, "under the watcher", x, "e", -6, 0, 1, 2, 1, 1);
        x = Checks.built(".# #. .c");
        c.due("12 heard through walls, far", x.ears(3), 1);
        x.watch(0, 0, false);
        x.place(0, 4);
        judged(c, "through walls", x, "e", -6, 0, 0, 2, 1, 5);
        x.ears(2);
        judged(c, "rows and columns together", x, "e", -6, -6, -6, -6, 0, 5);
        x = Checks.built("..d.");
        x.watch(3, 3, false);
        judged(c, "dust keeps steps", x, "eeww-", -6, 1, 0, 3, 4, 0);
        x = Checks.built("d.. ...");
        x.watch(2, 3, false);
        judged(c, "the door's dust", x, "s", -6, 0, 0, 3, 1, 3);
        x = Checks.built("#d.");
        x.watch(2, 2, false);
        judged(c, "dust not seen", x, "-e", -6, -6, -6, -6, 0, 2);
        x = new CapHouse();
        x.watch(4, 0, true);
        judged(c, "a dog knows", x, "-e-e", -6, 1, 0, 4, 2, 2);
        x.dismiss();
        x.watch(4, 0, false);
        judged(c, "no dog", x, "-e-e", -6, -6, -6, -6, 0, 2);
        x = Checks.built(".#.");
        x.watch(2, 3, true);
        judged(c, "a dog two away", x, "-", -6, -6, -6, -6, 0, 0);
        leastReasons(c);
    }

    private static void leastReasons(Checks c) {
        CapHouse x = Checks.built("dgc.");
        x.watch(3, 3, true);
        x.watch(2, 3, false);
        judged(c, "grass over dust", x, "e", -6, 0, 0, 1, 1, 1);
        judged(c, "dust first", x, "-e", -6, 0, 0, 3, 2, 1);
        x.dismiss();
        x.watch(1, 1, false);
        x.watch(3, 3, true);
        judged(c, "the least watcher", x, "ee", -6, 0, 0, 1, 2, 2);
        x.dismiss();
        x.watch(3, 0, true);
        x.watch(2, 3, false);
        judged(c, "the other watcher", x, "e", -6, 0, 1, 1, 1, 1);
        judged(c, "that with the dog first", x, "-ee", -6, 0, 1, 3, 3, 2);
        x = Checks.built(".c.");
        x.watch(2, 0, true);
        judged(c, "board over dog", x, "e-", -6, 0, 0, 2, 2, 1);
        x.dismiss();
        x.watch(2, 0, false);
        x.ears(0);
        x.watch(2, 0, true);
        judged(c, "to whom the dog belongs", x, "e", -6, 0, 1, 4, 1, 1);
        x = Checks.built("gg");
        x.watch(1, 3, false);
        judged(c, "not at the door itself", x, "--", -6, -6, -6, -6, 0, 0);
        judged(c, "back in the door's grass", x, "-ew", -6, 1, 0, 1, 2, 0);
    }

    private static void promise13(Checks c) {
        CapHouse x = Checks.built(".... .#.. .... ....");
        c.due("13 unknown", x.sees(0), -1);
        x.watch(9, 0, false);
        c.due("13 to a wall", x.sees(0), 1 << 9);
        x.watch(8, 1, true);
        c.due("13 east", x.sees(1), 0xF00);
        x.watch(2, 2, false);
        c.due("13 south", x.sees(2), 0x4444);
        x.watch(7, 3, false);
        c.due("13 west to a wall", x.sees(3), 0xC0);
        c.due("13 unknown", x.sees(4), -1);
        c.due("13 unknown", x.sees(-1), -1);
        c.due("13 unknown", x.sees(Integer.MIN_VALUE), -1);
        x.dismiss();
        x.watch(3, 1, false);
        c.due("13 no round the row", x.sees(0), 8);
        x.watch(4, 3, false);
        c.due("13 no round the row", x.sees(1), 16);
    }

    private static void promise14(Checks c) {
        CapHouse x = Checks.built(".gcd gcd# cd.g d.gc");
        c.due("14 nobody watches", x.bare(), 0xFFFF & ~(1 << 7));
        x.watch(0, 1, false);
        c.due("14 seen grass, dust", x.bare(), 0xFFFF & ~(1 << 7) & ~(1 << 1) & ~(1 << 3));
        x.ears(2);
        c.due("14 heard boards", x.bare(), 0xFF7F & ~(1 << 1 | 1 << 3 | 1 << 2 | 1 << 5 | 1 << 8));
        x.watch(10, 2, true);
        int near = 1 << 10 | 1 << 6 | 1 << 9 | 1 << 11 | 1 << 14;
        int heard = 1 << 2 | 1 << 5 | 1 << 8 | 1 << 15;
        c.due("14 a dog", x.bare(), 0xFF7F & ~(1 << 1 | 1 << 3 | near | heard));
        x.dismiss();
        c.due("14 all gone", x.bare(), 0xFF7F);
    }
}
