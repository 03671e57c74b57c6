/**
 * The sentences of the document that name a boundary, one by one, on both sides of it where there are two.
 * What is due is worked out here from rows and columns, or by hand.
 */
final class LimitTests {
    private static final int LEAST_INT = Integer.MIN_VALUE;
    private static final int MOST_INT = Integer.MAX_VALUE;
    private static final int[] ROW_STEPS = {-1, 0, 1, 0};
    private static final int[] COLUMN_STEPS = {0, 1, 0, -1};

    static void run(Checks c) {
        rowsAndColumnsAreOneToFour(c);
        allIsStoneAtFirst(c);
        aHouseLaidOutAnewIsAllStone(c);
        thePadTakesFortySigns(c);
        signsHaveCodes33To126(c);
        fiveSignsMakeAHouseAndFiveAWalk(c);
        theFaultOfAHouse(c);
        theFaultOfAWalk(c);
        theFaultIsAskedByZeroOrOne(c);
        aPadWithoutFaultIsBuilt(c);
        aHouseOfWallsAloneIsNone(c);
        doorAndThingAreTheFirstAndLastThatAreNoWalls(c);
        aDoorMayBeAnyCellButAWall(c);
        fourWatchersAtMost(c);
        watchersLookZeroToThree(c);
        earsAreZeroToSix(c);
        sightEndsAtTheHouse(c);
        sightEndsAtAWall(c);
        stepsEndAtTheHouse(c);
        stepsEndAtAWall(c);
        minutesCountFromZero(c);
        noMinuteAtAll(c);
        grassTellsOfAStepAlone(c);
        boardsAreHeardAsFarAsEars(c);
        dustKeepsSteps(c);
        dogsKnowOneAway(c);
        theLeastWatcherAndItsReason(c);
        bareIsForNobody(c);
        anObjectHolds512Calls(c);
    }

    /** A new object with a house of signs, row by row. */
    private static CapHouse house(int rows, int columns, String signs) {
        CapHouse x = new CapHouse();
        x.house(rows, columns);
        Checks.say(x, signs);
        x.build();
        return x;
    }

    private static String stoneBut(int cells, int cell, char sign) {
        return ".".repeat(cell) + sign + ".".repeat(cells - cell - 1);
    }

    /** The cell beside one; -1: it would be beyond the house. */
    private static int beside(int rows, int columns, int cell, int way) {
        int row = cell / columns + ROW_STEPS[way];
        int column = cell % columns + COLUMN_STEPS[way];
        return row < 0 || row >= rows || column < 0 || column >= columns ? -1 : row * columns + column;
    }

    private static int apart(int columns, int a, int b) {
        return Math.abs(a / columns - b / columns) + Math.abs(a % columns - b % columns);
    }

    private static void rowsAndColumnsAreOneToFour(Checks c) {
        for (int rows = -1; rows <= 6; rows++) {
            for (int columns = -1; columns <= 6; columns++) {
                boolean good = rows >= 1 && rows <= 4 && columns >= 1 && columns <= 4;
                int cells = rows * columns;
                CapHouse x = new CapHouse();
                String name = "2 house(" + rows + ", " + columns + ") ";
                c.due(name, x.house(rows, columns), good ? cells : -2);
                c.due(name + "ROWS", x.told(1), good ? rows : 3);
                c.due(name + "COLUMNS", x.told(2), good ? columns : 3);
                c.due(name + "THE DOOR", x.told(3), 0);
                c.due(name + "THE THING", x.told(4), good ? cells - 1 : 8);
                if (good) {
                    cellsAreFromZeroOn(c, name, x, cells);
                }
            }
        }
        CapHouse x = new CapHouse();
        for (int far : new int[] {LEAST_INT, MOST_INT, 65536, 0x10000003}) {
            c.due("2 far rows", x.house(far, 3), -2);
            c.due("2 far columns", x.house(3, far), -2);
            c.due("2 both far", x.house(far, far), -2);
        }
    }

    private static void cellsAreFromZeroOn(Checks c, String name, CapHouse x, int cells) {
        c.due(name + "7 first cell", x.cell(0), '.');
        c.due(name + "7 last cell", x.cell(cells - 1), '.');
        c.due(name + "8 last cell", x.place(0, cells - 1), 0);
        c.due(name + "9 last cell", x.watch(cells - 1, 0, false), 1);
        for (int none : new int[] {-1, cells, cells + 1, 16, LEAST_INT, MOST_INT}) {
            c.due(name + "7 no cell " + none, x.cell(none), -1);
            c.due(name + "8 no cell " + none, x.place(0, none), -1);
            c.due(name + "8 no cell " + none, x.place(1, none), -1);
            c.due(name + "9 no cell " + none, x.watch(none, 0, false), -1);
        }
        c.due(name + "8 first cell", x.place(0, 0), cells - 1);
        c.due(name + "9 first cell", x.watch(0, 0, false), 2);
        c.due(name + "14 all bare", x.bare(), (1 << cells) - 1);
    }

    private static void allIsStoneAtFirst(Checks c) {
        CapHouse x = new CapHouse();
        for (int cell = -1; cell <= 9; cell++) {
            c.due("1 cell " + cell, x.cell(cell), cell >= 0 && cell < 9 ? '.' : -1);
        }
        int[] due = {0, 3, 3, 0, 8, 0, 1, -2};
        for (int what = 0; what < due.length; what++) {
            c.due("1 told(" + what + ")", x.told(what), due[what]);
        }
        c.due("1 nobody watches", x.sees(0), -1);
        c.due("1 nobody goes", x.dismiss(), 0);
        c.due("1 no sign goes", x.wipe(), 0);
        c.due("1 the empty pad is a walk", x.fault(1), -6);
        c.due("1 the empty pad is no house", x.fault(0), 0);
    }

    private static void aHouseLaidOutAnewIsAllStone(Checks c) {
        CapHouse x = house(2, 2, "#gcd");
        x.watch(1, 2, true);
        x.ears(6);
        Checks.say(x, "e".repeat(40));
        c.due("2 the same size anew", x.house(2, 2), 4);
        for (int cell = 0; cell < 4; cell++) {
            c.due("2 stone", x.cell(cell), '.');
        }
        int[] due = {40, 2, 2, 0, 3, 0, 6};
        for (int what = 0; what < due.length; what++) {
            c.due("2 told(" + what + ")", x.told(what), due[what]);
        }
        c.due("2 no watcher", x.told(10), -2);
        c.due("2 all bare", x.bare(), 15);
    }

    private static void thePadTakesFortySigns(Checks c) {
        CapHouse x = new CapHouse();
        for (int many = 1; many <= 40; many++) {
            c.due("3 a sign more", x.say('-'), many);
            c.due("25 signs", x.told(0), many);
        }
        c.due("3 the 41st", x.say('-'), -4);
        c.due("3 the 41st, another", x.say('!'), -4);
        c.due("25 still forty", x.told(0), 40);
        c.due("5 none of them is wrong", x.fault(1), -6);
        c.due("12 all forty are walked", x.judge(5), 0);
        c.due("4 forty go", x.wipe(), 40);
        c.due("4 none is left", x.wipe(), 0);
        c.due("3 the first again", x.say('~'), 1);
        c.due("4 one goes", x.wipe(), 1);
    }

    private static void signsHaveCodes33To126(Checks c) {
        CapHouse x = new CapHouse();
        for (int code = -2; code <= 200; code++) {
            c.due("3 say(" + code + ")", x.say(code), code >= 33 && code <= 126 ? 1 : -2);
            c.due("4 after " + code, x.wipe(), code >= 33 && code <= 126 ? 1 : 0);
        }
        for (int far : new int[] {LEAST_INT, MOST_INT, 256 + 46, 65536 + 46, -46}) {
            c.due("3 say(" + far + ")", x.say(far), -2);
        }
    }

    private static void fiveSignsMakeAHouseAndFiveAWalk(Checks c) {
        CapHouse x = new CapHouse();
        x.house(1, 1);
        for (int code = 33; code <= 126; code++) {
            x.say(code);
            c.due("5 a house of " + (char) code, x.fault(0), ".gcd#".indexOf(code) >= 0 ? -6 : 0);
            c.due("5 a walk of " + (char) code, x.fault(1), "nesw-".indexOf(code) >= 0 ? -6 : 0);
            x.wipe();
        }
        for (char sign : ".gcd".toCharArray()) {
            x.say(sign);
            c.due("6 a cell of " + sign, x.build(), 1);
            c.due("7 a cell of " + sign, x.cell(0), sign);
        }
    }

    private static void faulty(Checks c, String what, CapHouse x, String pad, int how, int due) {
        Checks.walk(x, pad);
        c.due("5 " + what + " '" + pad + "'", x.fault(how), due);
    }

    private static void theFaultOfAHouse(Checks c) {
        for (int cells = 1; cells <= 16; cells++) {
            CapHouse x = new CapHouse();
            int rows = cells % 4 == 0 ? 4 : cells % 3 == 0 ? 3 : cells % 2 == 0 ? 2 : 1;
            if (x.house(rows, cells / rows) != cells) {
                continue;
            }
            for (int many = 0; many <= cells + 2; many++) {
                int due = many < cells ? many : many == cells ? -6 : cells;
                faulty(c, "signs for " + cells + " cells", x, "#".repeat(many), 0, due);
            }
            faulty(c, "forty signs", x, ".".repeat(40), 0, cells);
        }
        CapHouse x = new CapHouse();
        x.house(2, 2);
        faulty(c, "the first sign", x, "x...", 0, 0);
        faulty(c, "the last sign", x, "...x", 0, 3);
        faulty(c, "the first of two", x, ".x.x", 0, 1);
        faulty(c, "a wrong sign ahead of more that must come", x, "x.", 0, 0);
        faulty(c, "the last one wrong, more must come", x, "..x", 0, 2);
        faulty(c, "wrong ahead of too many", x, "..x..", 0, 2);
        faulty(c, "the first too many, though right", x, ".....x", 0, 4);
        faulty(c, "the first too many, itself wrong", x, "....xx", 0, 4);
        faulty(c, "signs of walks", x, "nesw", 0, 0);
    }

    private static void theFaultOfAWalk(Checks c) {
        CapHouse x = new CapHouse();
        faulty(c, "no sign", x, "", 1, -6);
        faulty(c, "one sign", x, "n", 1, -6);
        faulty(c, "each sign", x, "nesw-", 1, -6);
        faulty(c, "forty signs", x, "nesw-".repeat(8), 1, -6);
        faulty(c, "the fortieth", x, "-".repeat(39) + ".", 1, 39);
        faulty(c, "the first", x, ".-----", 1, 0);
        faulty(c, "the first of two", x, "nXsX", 1, 1);
        faulty(c, "steps that can not be are no fault", x, "nnnn", 1, -6);
    }

    private static void theFaultIsAskedByZeroOrOne(Checks c) {
        CapHouse x = new CapHouse();
        Checks.say(x, "x");
        for (int how : new int[] {-1, 2, LEAST_INT, MOST_INT}) {
            c.due("5 fault(" + how + ")", x.fault(how), -2);
        }
        c.due("5 fault(0)", x.fault(0), 0);
        c.due("5 fault(1)", x.fault(1), 0);
    }

    private static void aPadWithoutFaultIsBuilt(Checks c) {
        for (String wrong : new String[] {"", ".", "...", ".....", "..x.", "nesw"}) {
            CapHouse x = new CapHouse();
            x.house(2, 2);
            Checks.say(x, wrong);
            c.due("6 a fault in '" + wrong + "'", x.build(), -5);
            c.due("6 the pad stays '" + wrong + "'", x.told(0), wrong.length());
        }
        CapHouse x = new CapHouse();
        x.house(2, 2);
        x.watch(3, 0, true);
        x.ears(5);
        x.place(0, 3);
        Checks.say(x, "dcg.");
        c.due("6 no fault", x.build(), 4);
        c.due("6 the pad is empty then", x.told(0), 0);
        c.due("6 watchers go", x.told(5), 0);
        c.due("6 ears stay", x.told(6), 5);
        c.due("6 rows stay", x.told(1), 2);
        c.due("6 once more: more must come", x.build(), -5);
    }

    private static void aHouseOfWallsAloneIsNone(Checks c) {
        for (int rows = 1; rows <= 4; rows++) {
            for (int columns = 1; columns <= 4; columns++) {
                CapHouse x = new CapHouse();
                x.house(rows, columns);
                int cells = rows * columns;
                Checks.say(x, "#".repeat(cells - 1));
                c.due("6 a sign too few", x.build(), -5);
                x.say('#');
                c.due("6 all are walls", x.build(), -3);
                c.due("6 the pad stays", x.told(0), cells);
                c.due("6 stone stays", x.cell(0), '.');
                c.due("6 once more", x.build(), -3);
                x.say('#');
                c.due("6 a sign too many", x.build(), -5);
                Checks.walk(x, "#".repeat(cells - 1) + "g");
                c.due("6 all but one", x.build(), 1);
            }
        }
    }

    private static void doorAndThingAreTheFirstAndLastThatAreNoWalls(Checks c) {
        for (int first = 0; first < 16; first++) {
            for (int last = first; last < 16; last++) {
                int inner = last - first - 1;
                String signs = "#".repeat(first) + (first < last ? "d" + "#".repeat(inner) : "") + "c"
                    + "#".repeat(15 - last);
                CapHouse x = house(4, 4, signs);
                c.due("6 THE DOOR of " + signs, x.told(3), first);
                c.due("6 THE THING of " + signs, x.told(4), last);
            }
        }
    }

    private static void aDoorMayBeAnyCellButAWall(Checks c) {
        CapHouse x = house(2, 3, ".gcd#.");
        for (int which = 0; which <= 1; which++) {
            int before = which == 0 ? 0 : 5;
            for (int cell = 0; cell < 6; cell++) {
                c.due("8 which " + which + " cell " + cell, x.place(which, cell), cell == 4 ? -3 : before);
                before = cell == 4 ? before : cell;
                c.due("8 it is there", x.told(3 + which), before);
            }
            c.due("8 where it is", x.place(which, 5), 5);
        }
        for (int which : new int[] {-1, 2, LEAST_INT, MOST_INT}) {
            c.due("8 which " + which, x.place(which, 0), -2);
        }
    }

    private static void fourWatchersAtMost(Checks c) {
        CapHouse x = house(1, 3, "#.#");
        for (int many = 0; many <= 4; many++) {
            c.due("25 watchers", x.told(5), many);
            for (int w = 0; w <= 5; w++) {
                boolean is = w < many;
                c.due("13 sees(" + w + ") of " + many, x.sees(w), is ? 1 << 1 : -1);
                c.due("25 its cell", x.told(10 * (1 + w)), is ? 1 : -2);
                c.due("25 how it looks", x.told(10 * (1 + w) + 1), is ? w : -2);
                c.due("25 its dog", x.told(10 * (1 + w) + 2), is ? w % 2 : -2);
                for (int more = 3; more <= 9; more++) {
                    c.due("25 no more of it", x.told(10 * (1 + w) + more), -2);
                }
            }
            int looking = many % 4;
            c.due("9 after " + many, x.watch(1, looking, many % 2 == 1), many < 4 ? many + 1 : -4);
        }
        c.due("25 still four", x.told(5), 4);
        c.due("10 four go", x.dismiss(), 4);
        c.due("10 none is left", x.dismiss(), 0);
        c.due("9 the first again", x.watch(1, 0, false), 1);
        c.due("10 one goes", x.dismiss(), 1);
        for (int none : new int[] {-1, 0, LEAST_INT, MOST_INT}) {
            c.due("13 sees(" + none + ")", x.sees(none), -1);
        }
    }

    private static void watchersLookZeroToThree(Checks c) {
        CapHouse x = new CapHouse();
        for (int wrong : new int[] {-1, 4, 5, LEAST_INT, MOST_INT}) {
            c.due("9 looking " + wrong, x.watch(4, wrong, false), -2);
        }
        int[] due = {1 << 4 | 1 << 1, 1 << 4 | 1 << 5, 1 << 4 | 1 << 7, 1 << 4 | 1 << 3};
        for (int looking = 0; looking < 4; looking++) {
            c.due("9 looking " + looking, x.watch(4, looking, false), looking + 1);
            c.due("13 looking " + looking, x.sees(looking), due[looking]);
            c.due("25 looking " + looking, x.told(10 * (1 + looking) + 1), looking);
        }
    }

    private static void earsAreZeroToSix(Checks c) {
        CapHouse x = new CapHouse();
        c.due("11 one at first", x.told(6), 1);
        int before = 1;
        for (int v = -2; v <= 9; v++) {
            boolean good = v >= 0 && v <= 6;
            c.due("11 ears(" + v + ")", x.ears(v), good ? before : -2);
            before = good ? v : before;
            c.due("25 ears", x.told(6), before);
        }
        c.due("11 far", x.ears(LEAST_INT), -2);
        c.due("11 far", x.ears(MOST_INT), -2);
        c.due("11 as before", x.ears(6), 6);
    }

    private static int sight(int rows, int columns, int cell, int way, int wall) {
        int set = 0;
        for (int at = cell; at >= 0 && at != wall; at = beside(rows, columns, at, way)) {
            set |= 1 << at;
        }
        return set;
    }

    private static void sightEndsAtTheHouse(Checks c) {
        for (int rows = 1; rows <= 4; rows++) {
            for (int columns = 1; columns <= 4; columns++) {
                for (int cell = 0; cell < rows * columns; cell++) {
                    CapHouse x = new CapHouse();
                    x.house(rows, columns);
                    for (int way = 0; way < 4; way++) {
                        x.watch(cell, way, false);
                        c.due("13 " + rows + " by " + columns + " from " + cell + " looking " + way,
                            x.sees(way), sight(rows, columns, cell, way, -1));
                    }
                }
            }
        }
    }

    private static void sightEndsAtAWall(Checks c) {
        for (int wall = 0; wall < 16; wall++) {
            CapHouse x = house(4, 4, stoneBut(16, wall, '#'));
            for (int cell = 0; cell < 16; cell++) {
                if (cell == wall) {
                    c.due("9 in a wall", x.watch(cell, 0, false), -3);
                    continue;
                }
                for (int way = 0; way < 4; way++) {
                    x.watch(cell, way, false);
                    c.due("13 a wall at " + wall + " from " + cell + " looking " + way,
                        x.sees(way), sight(4, 4, cell, way, wall));
                }
                x.dismiss();
            }
        }
    }

    private static void stepsEndAtTheHouse(Checks c) {
        for (int rows = 1; rows <= 4; rows++) {
            for (int columns = 1; columns <= 4; columns++) {
                for (int cell = 0; cell < rows * columns; cell++) {
                    CapHouse x = new CapHouse();
                    x.house(rows, columns);
                    x.place(0, cell);
                    for (int way = 0; way < 4; way++) {
                        stepFrom(c, x, cell, way, beside(rows, columns, cell, way));
                    }
                    Checks.walk(x, "-");
                    c.due("12 it may stay", x.judge(0), -6);
                    c.due("12 where it stays", x.judge(5), cell);
                }
            }
        }
    }

    private static void stepFrom(Checks c, CapHouse x, int cell, int way, int to) {
        String name = "12 from " + cell + " by " + "nesw".charAt(way);
        Checks.walk(x, "nesw".substring(way, way + 1));
        c.due(name + " can not be", x.judge(0), to < 0 ? 0 : -6);
        c.due(name + " ends", x.judge(5), to < 0 ? -3 : to);
        c.due(name + " in wind", x.wind(5, 0), to < 0 ? CapHouse.GONE - 3 : 1);
    }

    private static void stepsEndAtAWall(Checks c) {
        for (int wall = 0; wall < 16; wall++) {
            CapHouse x = house(4, 4, stoneBut(16, wall, '#'));
            for (int way = 0; way < 4; way++) {
                int from = beside(4, 4, wall, way);
                if (from >= 0) {
                    x.place(0, from);
                    stepFrom(c, x, from, (way + 2) % 4, -1);
                }
            }
        }
    }

    private static void judged(Checks c, String what, CapHouse x, String steps, int... due) {
        Checks.walk(x, steps);
        for (int i = 0; i < due.length; i++) {
            c.due("12 " + what + " '" + steps + "' judge(" + i + ")", x.judge(i), due[i]);
        }
    }

    private static void minutesCountFromZero(Checks c) {
        CapHouse x = new CapHouse();
        judged(c, "the first step can not be", x, "n" + "-".repeat(39), 0, -3, -3, -3, -3, -3);
        judged(c, "the fortieth step can not be", x, "-".repeat(39) + "w", 39, -3, -3, -3, -3, -3);
        judged(c, "the first of two", x, "ewwn", 2, -3);
        judged(c, "forty that can be", x, "ew".repeat(20), -6, -6, -6, -6, 0, 0);
        x = house(1, 2, ".d");
        x.watch(1, 1, false);
        judged(c, "it shows at minute 0", x, "e", -6, 0, 0, 3, 1, 1);
        judged(c, "it shows at minute 39", x, "-".repeat(39) + "e", -6, 39, 0, 3, 1, 1);
        judged(c, "it shows at forty", x, "ew".repeat(20), -6, 0, 0, 3, 40, 0);
        judged(c, "a step that can not be behind one that shows", x, "ee", 1, -3, -3, -3, -3, -3);
        for (int what : new int[] {-1, 6, LEAST_INT, MOST_INT}) {
            c.due("12 judge(" + what + ")", x.judge(what), -2);
        }
    }

    private static void noMinuteAtAll(Checks c) {
        CapHouse x = house(1, 1, "d");
        x.watch(0, 0, true);
        judged(c, "dust at the door, a dog there, no minute", x, "", -6, -6, -6, -6, 0, 0);
        c.due("21 no minute", x.wind(0, 0), 1);
        c.due("21 no minute", x.wind(0, 1), 1);
        judged(c, "one minute", x, "-", -6, 0, 0, 3, 1, 0);
        c.due("21 one minute", x.wind(0, 0), 0);
    }

    private static void grassTellsOfAStepAlone(Checks c) {
        CapHouse x = house(1, 4, "gg.g");
        x.watch(1, 3, false);
        judged(c, "the door's grass, no step", x, "--", -6, -6, -6, -6, 0, 0);
        judged(c, "a step, then staying", x, "-e--", -6, 1, 0, 1, 1, 1);
        judged(c, "a step back to the door", x, "ew", -6, 0, 0, 1, 2, 0);
        judged(c, "a step to stone", x, "ee", -6, 0, 0, 1, 1, 2);
        x.dismiss();
        x.watch(1, 1, false);
        judged(c, "its own cell is seen, and behind it", x, "eee-", -6, 0, 0, 1, 2, 3);
        judged(c, "what lies behind its back is not", x, "ew-", -6, 0, 0, 1, 1, 0);
    }

    private static void boardsAreHeardAsFarAsEars(Checks c) {
        for (int board : new int[] {15, 9, 3}) {
            CapHouse x = house(4, 4, stoneBut(16, board, 'c'));
            x.place(0, board == 9 ? 8 : board - 1);
            Checks.say(x, "e");
            for (int watcher = 0; watcher < 16; watcher++) {
                x.watch(watcher, 0, false);
                for (int ears = 0; ears <= 6; ears++) {
                    x.ears(ears);
                    boolean heard = apart(4, board, watcher) <= ears;
                    String name = " board " + board + " watcher " + watcher + " ears " + ears;
                    c.due("12" + name, x.judge(3), heard ? 2 : -6);
                    c.due("14" + name, x.bare(), heard ? 0xFFFF & ~(1 << board) : 0xFFFF);
                }
                x.dismiss();
            }
        }
        CapHouse x = house(1, 3, "cc.");
        x.watch(0, 0, false);
        judged(c, "the door's board, no step", x, "-", -6, -6, -6, -6, 0, 0);
        judged(c, "a step, then staying", x, "-e--", -6, 1, 0, 2, 1, 1);
    }

    private static void dustKeepsSteps(Checks c) {
        CapHouse x = house(1, 4, "d.d.");
        x.watch(3, 3, false);
        judged(c, "the door's dust from minute 0", x, "e", -6, 0, 0, 3, 1, 1);
        x.place(0, 1);
        judged(c, "not ahead of the step", x, "---", -6, -6, -6, -6, 0, 1);
        judged(c, "now", x, "--e", -6, 2, 0, 3, 1, 2);
        judged(c, "ahead, too", x, "--ee--", -6, 2, 0, 3, 4, 3);
        x.dismiss();
        x.watch(2, 1, false);
        x.watch(1, 3, false);
        judged(c, "to another from when it was there", x, "-e-w-w", -6, 1, 0, 3, 5, 0);
        judged(c, "to the one that sees it", x, "w", -6, 0, 1, 3, 1, 0);
        x = house(1, 3, ".#d");
        x.watch(2, 1, false);
        judged(c, "dust on which it never was", x, "----", -6, -6, -6, -6, 0, 0);
    }

    private static void dogsKnowOneAway(Checks c) {
        for (int wearer = 0; wearer < 16; wearer++) {
            CapHouse x = new CapHouse();
            x.house(4, 4);
            x.place(0, wearer);
            x.ears(6);
            Checks.say(x, "-");
            for (int watcher = 0; watcher < 16; watcher++) {
                boolean known = apart(4, wearer, watcher) <= 1;
                String name = " wearer " + wearer + " dog " + watcher;
                x.watch(watcher, 0, true);
                c.due("12" + name, x.judge(3), known ? 4 : -6);
                c.due("14" + name, x.bare() >> wearer & 1, known ? 0 : 1);
                x.dismiss();
                x.watch(watcher, 0, false);
                c.due("12 no" + name, x.judge(3), -6);
                c.due("14 no" + name, x.bare(), 0xFFFF);
                x.dismiss();
            }
        }
    }

    private static void theLeastWatcherAndItsReason(Checks c) {
        CapHouse x = house(1, 4, ".dg.");
        x.watch(0, 3, false);
        x.watch(1, 1, false);
        x.watch(3, 3, false);
        x.watch(2, 3, true);
        judged(c, "the least that sees the dust", x, "e", -6, 0, 1, 3, 1, 1);
        judged(c, "the reason of the first minute", x, "ee", -6, 0, 1, 3, 2, 2);
        x.dismiss();
        x.watch(0, 3, false);
        x.watch(0, 3, false);
        x.watch(0, 3, false);
        x.watch(1, 1, false);
        judged(c, "the fourth alone", x, "-e", -6, 1, 3, 3, 1, 1);
        x.place(0, 3);
        judged(c, "grass ahead of dust", x, "w", -6, 0, 3, 1, 1, 2);
        judged(c, "staying in the grass", x, "w-", -6, 0, 3, 1, 1, 2);
        judged(c, "first the grass, then the dust", x, "ww", -6, 0, 3, 1, 2, 1);
        x.dismiss();
        x.watch(1, 0, true);
        x.watch(0, 1, false);
        judged(c, "the least watcher's reason, though another has a lesser one", x, "w", -6, 0, 0, 4, 1, 2);
    }

    private static void bareIsForNobody(Checks c) {
        CapHouse x = house(2, 4, "#.gcd.gd");
        c.due("14 no walls, nobody watches", x.bare(), 0xFE);
        x.ears(0);
        x.watch(5, 1, false);
        c.due("14 seen grass and dust", x.bare(), 0xFE & ~(1 << 6 | 1 << 7));
        x.watch(3, 0, false);
        c.due("14 a board under one, ears 0", x.bare(), 0xFE & ~(1 << 6 | 1 << 7 | 1 << 3));
        x.watch(3, 3, false);
        c.due("14 seen by a third", x.bare(), 0xFE & ~(1 << 6 | 1 << 7 | 1 << 3 | 1 << 2));
        x.watch(1, 3, true);
        c.due("14 a dog beside stone", x.bare(), 1 << 4);
        x.dismiss();
        x.watch(5, 0, true);
        c.due("14 a dog at no wall", x.bare(), 0xFE & ~(1 << 5 | 1 << 1 | 1 << 4 | 1 << 6));
    }

    /** 511 calls that fill, refuse, ask and keep; the 512th is answered as ever. */
    private static void anObjectHolds512Calls(Checks c) {
        CapHouse x = new CapHouse();
        int calls = 0;
        for (; calls < 40; calls++) {
            x.say('-');
        }
        for (; calls < 510; calls++) {
            int due = calls % 5 == 0 ? -4 : calls % 5 == 1 ? 511 : calls % 5 == 2 ? 1 : calls % 5 == 3 ? 8 : 0;
            int got = calls % 5 == 0 ? x.say('-') : calls % 5 == 1 ? x.bare() : calls % 5 == 2 ? x.image(calls % 2)
                : calls % 5 == 3 ? x.safe(-1) : x.judge(5);
            c.due("call " + calls, got, due);
        }
        c.due("the 511th call", x.told(0), 40);
        c.due("the 512th call", x.restore(1), 1);
    }
}
