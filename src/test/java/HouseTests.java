/** Promises 1 to 11. */
final class HouseTests {
    static void run(Checks c) {
        promise1(c);
        promise2(c);
        promise3and4(c);
        promise5(c);
        promise6(c);
        promise7(c);
        promise8(c);
        promise9and10(c);
        promise11(c);
    }

    private static void promise1(Checks c) {
        CapHouse x = new CapHouse();
        int[] due = {0, 3, 3, 0, 8, 0, 1};
        for (int what = 0; what < due.length; what++) {
            c.due("1 told " + what, x.told(what), due[what]);
        }
        for (int cell = 0; cell < 9; cell++) {
            c.due("1 stone", x.cell(cell), '.');
        }
        c.due("1 no tenth cell", x.cell(9), -1);
        c.due("1 no image", x.restore(0), -3);
        c.due("1 no image", x.restore(1), -3);
        c.due("1 all bare", x.bare(), 511);
    }

    private static void promise2(Checks c) {
        CapHouse x = new CapHouse();
        for (int rows = 1; rows <= 4; rows++) {
            for (int columns = 1; columns <= 4; columns++) {
                c.due("2 cells", x.house(rows, columns), rows * columns);
                c.due("2 rows", x.told(1), rows);
                c.due("2 columns", x.told(2), columns);
                c.due("2 thing", x.told(4), rows * columns - 1);
            }
        }
        x = Checks.built("#gc d.# g.c");
        x.watch(1, 2, true);
        x.ears(3);
        x.image(0);
        Checks.say(x, "ab");
        int[][] wrong = {{0, 1}, {5, 1}, {1, 0}, {1, 5}, {-1, 3}, {3, -1}, {Integer.MIN_VALUE, Integer.MAX_VALUE}};
        for (int[] w : wrong) {
            c.due("2 refused", x.house(w[0], w[1]), -2);
        }
        c.due("2 refused changes nothing", x.cell(0), '#');
        c.due("2 refused keeps watchers", x.told(5), 1);
        c.due("2 same size", x.house(3, 3), 9);
        c.due("2 stone", x.cell(0), '.');
        c.due("2 watchers gone", x.told(5), 0);
        c.due("2 door", x.told(3), 0);
        c.due("2 thing", x.told(4), 8);
        c.due("2 ears stay", x.told(6), 3);
        c.due("2 pad stays", x.told(0), 2);
        c.due("2 images stay", x.restore(0), 1);
        c.due("2 the kept one", x.cell(0), '#');
    }

    private static void promise3and4(Checks c) {
        CapHouse x = new CapHouse();
        c.due("4 empty", x.wipe(), 0);
        c.due("3 too low", x.say(32), -2);
        c.due("3 too high", x.say(127), -2);
        c.due("3 negative", x.say(-1), -2);
        c.due("3 wraps not", x.say(65536 + 46), -2);
        c.due("3 lowest", x.say(33), 1);
        c.due("3 highest", x.say(126), 2);
        for (int i = 3; i <= 40; i++) {
            c.due("3 many", x.say(46), i);
        }
        c.due("3 full", x.say(46), -4);
        c.due("3 outside first", x.say(32), -2);
        c.due("3 stays 40", x.told(0), 40);
        c.due("4 wiped", x.wipe(), 40);
        c.due("4 nothing left", x.told(0), 0);
        c.due("3 again", x.say(101), 1);
    }

    private static void promise5(Checks c) {
        CapHouse x = new CapHouse();
        c.due("5 how", x.fault(2), -2);
        c.due("5 how", x.fault(-1), -2);
        c.due("5 empty house", x.fault(0), 0);
        c.due("5 empty walk", x.fault(1), -6);
        Checks.say(x, ".gcd#.gc");
        c.due("5 one more must come", x.fault(0), 8);
        x.say('d');
        c.due("5 full house", x.fault(0), -6);
        c.due("5 no walk", x.fault(1), 0);
        x.say('.');
        c.due("5 too many", x.fault(0), 9);
        x.house(4, 4);
        c.due("5 a larger house", x.fault(0), 10);
        x.house(1, 2);
        c.due("5 a smaller house", x.fault(0), 2);
        x.house(3, 3);
        x.wipe();
        Checks.say(x, "..x.........y");
        c.due("5 first wrong", x.fault(0), 2);
        x.wipe();
        Checks.say(x, "nesw-N");
        c.due("5 walk", x.fault(1), 5);
        x.wipe();
        Checks.say(x, "nesw-nesw-nesw-nesw-nesw-nesw-nesw-nesw-");
        c.due("5 longest walk", x.fault(1), -6);
        x.wipe();
        Checks.say(x, ".G");
        c.due("5 capitals", x.fault(0), 1);
    }

    private static void promise6(Checks c) {
        CapHouse x = new CapHouse();
        x.house(2, 3);
        x.watch(0, 1, false);
        Checks.say(x, "#.g");
        c.due("6 too short", x.build(), -5);
        c.due("6 pad stays", x.told(0), 3);
        c.due("6 watchers stay", x.told(5), 1);
        Checks.say(x, "dc#");
        c.due("6 built", x.build(), 4);
        c.due("6 pad empty", x.told(0), 0);
        c.due("6 watchers gone", x.told(5), 0);
        c.due("6 door", x.told(3), 1);
        c.due("6 thing", x.told(4), 4);
        String due = "#.gdc#";
        for (int i = 0; i < 6; i++) {
            c.due("6 signs", x.cell(i), due.charAt(i));
        }
        Checks.say(x, "######");
        c.due("6 all walls", x.build(), -3);
        c.due("6 stays", x.told(0), 6);
        c.due("6 old house", x.cell(1), '.');
        x.say('#');
        c.due("6 fault first", x.build(), -5);
        x.wipe();
        Checks.say(x, "###.##");
        c.due("6 one cell", x.build(), 1);
        c.due("6 door is it", x.told(3), 3);
        c.due("6 thing is it", x.told(4), 3);
        x.house(4, 4);
        Checks.say(x, "................");
        c.due("6 walls go", x.build(), 16);
        c.due("6 thing", x.told(4), 15);
    }

    private static void promise7(Checks c) {
        CapHouse x = Checks.built(".g cd #.");
        c.due("7", x.cell(0), 46);
        c.due("7", x.cell(1), 103);
        c.due("7", x.cell(2), 99);
        c.due("7", x.cell(3), 100);
        c.due("7", x.cell(4), 35);
        c.due("7", x.cell(5), 46);
        c.due("7 beyond", x.cell(6), -1);
        c.due("7 below", x.cell(-1), -1);
        c.due("7 far", x.cell(Integer.MAX_VALUE), -1);
        c.due("7 far", x.cell(Integer.MIN_VALUE), -1);
    }

    private static void promise8(Checks c) {
        CapHouse x = Checks.built(".#. ...");
        c.due("8 unknown", x.place(0, 6), -1);
        c.due("8 unknown", x.place(0, -1), -1);
        c.due("8 unknown first", x.place(2, 6), -1);
        c.due("8 outside", x.place(2, 0), -2);
        c.due("8 outside", x.place(-1, 0), -2);
        c.due("8 outside before a wall", x.place(2, 1), -2);
        c.due("8 wall", x.place(0, 1), -3);
        c.due("8 wall", x.place(1, 1), -3);
        c.due("8 door", x.place(0, 4), 0);
        c.due("8 door again", x.place(0, 4), 4);
        c.due("8 thing", x.place(1, 4), 5);
        c.due("8 one cell", x.told(3), x.told(4));
        c.due("8 thing back", x.place(1, 2), 4);
        c.due("8 door stays", x.told(3), 4);
        c.due("8 thing is there", x.told(4), 2);
    }

    private static void promise9and10(Checks c) {
        CapHouse x = Checks.built(".#. ...");
        c.due("10 none", x.dismiss(), 0);
        c.due("9 unknown", x.watch(6, 0, true), -1);
        c.due("9 unknown first", x.watch(-1, 9, true), -1);
        c.due("9 outside", x.watch(0, 4, true), -2);
        c.due("9 outside", x.watch(1, -1, true), -2);
        c.due("9 wall", x.watch(1, 0, true), -3);
        c.due("9 one", x.watch(0, 3, true), 1);
        c.due("9 two in one cell", x.watch(0, 3, false), 2);
        c.due("9 three", x.watch(5, 0, false), 3);
        c.due("9 four", x.watch(2, 2, true), 4);
        c.due("9 full", x.watch(2, 2, true), -4);
        c.due("9 wall before full", x.watch(1, 2, true), -3);
        c.due("9 outside before full", x.watch(2, 7, true), -2);
        int[][] due = {{0, 3, 1}, {0, 3, 0}, {5, 0, 0}, {2, 2, 1}};
        for (int w = 0; w < 4; w++) {
            for (int k = 0; k < 3; k++) {
                c.due("9 told", x.told(10 * (1 + w) + k), due[w][k]);
            }
        }
        c.due("10 four", x.dismiss(), 4);
        c.due("10 gone", x.told(5), 0);
        c.due("10 unknown", x.sees(0), -1);
        c.due("9 anew", x.watch(3, 1, false), 1);
        c.due("9 no old dog", x.told(12), 0);
    }

    private static void promise11(Checks c) {
        CapHouse x = new CapHouse();
        c.due("11 first", x.ears(6), 1);
        c.due("11 outside", x.ears(7), -2);
        c.due("11 outside", x.ears(-1), -2);
        c.due("11 was", x.ears(0), 6);
        c.due("11 was", x.ears(0), 0);
        c.due("11 told", x.told(6), 0);
    }
}
