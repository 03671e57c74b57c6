/** Promises 20 to 25. */
final class ChanceTests {
    static void run(Checks c) {
        promise20(c);
        promise21(c);
        promise22(c);
        promise23and24(c);
        promise25(c);
    }

    private static void promise20(Checks c) {
        CapHouse x = new CapHouse();
        c.due("20 n", x.where(0, 9, 0), -2);
        c.due("20 n", x.where(0, -1, 0), -2);
        c.due("20 bits", x.where(1, 0, 0), -2);
        c.due("20 bits", x.where(256, 8, 0), -2);
        c.due("20 bits", x.where(-1, 8, 0), -2);
        c.due("20 what", x.where(0, 1, 2), -2);
        c.due("20 what", x.where(0, 1, -1), -2);
        c.due("20 none yet", x.where(0, 0, 0), 1);
        c.due("20 none yet", x.where(0, 0, 1), 1);
        c.due("20 one minute", x.where(0, 1, 0), 11);
        c.due("20 one minute", x.where(0, 1, 1), 3);
        c.due("20 can not be", x.where(1, 1, 0), 0);
        c.due("20 no walk", x.where(255, 8, 1), 0);
        x.watch(0, 0, true);
        c.due("20 at the door", x.where(1, 1, 0), 11);
        c.due("20 then away", x.where(1, 2, 0), 4 | 16 | 64);
        c.due("20 two of them to the middle", x.where(1, 2, 1), 4);
        c.due("20 away at once", x.where(2, 2, 1), 0);
        c.due("20 away and back", x.where(5, 3, 0), 2 | 8);
        c.due("20 from elsewhere", x.place(0, 8), 0);
        c.due("20 from elsewhere", x.where(2, 2, 0), 0);
        c.due("20 from elsewhere", x.where(4, 3, 0), 2 | 8);
    }

    private static void fraction(Checks c, String what, CapHouse x, int w, long upper, long lower) {
        c.due("21 " + what + " upper", x.wind(w, 0), upper);
        c.due("21 " + what + " lower", x.wind(w, 1), lower);
    }

    private static void promise21(Checks c) {
        CapHouse x = Checks.built(".gg.");
        x.watch(3, 3, false);
        long gone = CapHouse.GONE;
        for (int[] wrong : new int[][] {{-1, 0}, {11, 0}, {5, 2}, {5, -1}}) {
            c.due("21 outside", x.wind(wrong[0], wrong[1]), gone - 2);
        }
        fraction(c, "empty", x, 0, 1, 1);
        fraction(c, "empty", x, 7, 1, 1);
        Checks.walk(x, "eee");
        int[][] due = {{0, 1}, {1, 100}, {1, 25}, {9, 100}, {4, 25}, {1, 4}, {9, 25}, {49, 100}, {16, 25}, {81, 100}, {1, 1}};
        for (int w = 0; w <= 10; w++) {
            fraction(c, "twice at " + w, x, w, due[w][0], due[w][1]);
        }
        Checks.walk(x, "e-ewewewewewewe-");
        c.due("21 fourteen", x.judge(4), 14);
        c.due("21 fourteen are too many", x.wind(0, 0), gone - 4);
        Checks.walk(x, "e-ewewewewewe--");
        c.due("21 twelve", x.judge(4), 12);
        fraction(c, "twelve", x, 3, 531441L, 1000000000000L);
        Checks.walk(x, "eewewewewewew");
        c.due("21 thirteen", x.judge(4), 13);
        c.due("21 thirteen is too many", x.wind(10, 1), gone - 4);
        x.say('e');
        x.say('e');
        c.due("21 full though fourteen", x.wind(10, 1), gone - 4);
        Checks.walk(x, "eewewewewew");
        fraction(c, "eleven", x, 9, 31381059609L, 100000000000L);
        Checks.walk(x, "w");
        c.due("21 step", x.wind(5, 0), gone - 3);
        Checks.walk(x, "wz");
        c.due("21 fault", x.wind(5, 0), gone - 5);
        c.due("21 outside first", x.wind(11, 0), gone - 2);
        otherReasons(c);
    }

    private static void otherReasons(Checks c) {
        CapHouse x = Checks.built("gggd");
        x.watch(3, 3, false);
        Checks.walk(x, "ee");
        fraction(c, "seen grass", x, 5, 1, 4);
        Checks.walk(x, "eee");
        fraction(c, "dust shows in wind", x, 5, 0, 1);
        Checks.walk(x, "eewewewewewewe");
        x.say('e');
        c.due("21 full whatever else", x.wind(5, 0), CapHouse.GONE - 4);
        Checks.walk(x, "eeewewewewewewewewew");
        fraction(c, "grass behind dust is not alone", x, 5, 0, 1);
        x = Checks.built(".g.");
        x.watch(2, 3, true);
        Checks.walk(x, "e");
        c.due("21 grass is the reason", x.judge(3), 1);
        fraction(c, "but the dog knows", x, 10, 0, 1);
        x = Checks.built(".gc");
        x.watch(2, 3, false);
        Checks.walk(x, "ee");
        fraction(c, "a board creaks", x, 10, 0, 1);
        x.ears(0);
        x.dismiss();
        x.watch(1, 1, false);
        fraction(c, "unheard", x, 10, 1, 1);
        x.watch(1, 0, true);
        Checks.walk(x, "e");
        fraction(c, "another's dog", x, 10, 0, 1);
    }

    private static void promise22(Checks c) {
        CapHouse x = new CapHouse();
        for (int[] wrong : new int[][] {{-1, 0, 0}, {10000, 0, 0}, {0, -1, 0}, {0, 100, 0}, {0, 0, -1}, {0, 0, 3}}) {
            c.due("22 outside", x.night(wrong[0], wrong[1], wrong[2]), -2);
        }
        c.due("22 no minute", x.night(9999, 0, 0), 0);
        c.due("22 no minute", x.night(9999, 0, 1), 0);
        c.due("22 no minute", x.night(9999, 0, 2), 1);
        c.due("22 first draw 74: stays", x.night(0, 1, 2), 1);
        c.due("22 then 5624: stays, 28582: south", x.night(0, 3, 1), 3);
        c.due("22 two cells", x.night(0, 3, 2), 2);
        c.due("22 seed 1 draws 149", x.night(1, 1, 2), 1);
        x.place(0, 8);
        c.due("22 from the door", x.night(0, 0, 1), 8);
        x = Checks.built("g");
        x.watch(0, 0, false);
        c.due("22 no step that can be", x.night(5, 99, 0), 0);
        x = Checks.built("d");
        x.watch(0, 0, false);
        c.due("22 dust all night", x.night(5, 99, 0), 99);
        Checks.walk(x, "zzz");
        c.due("22 whatever is on the pad", x.night(5, 9, 0), 9);
    }

    private static void promise23and24(Checks c) {
        CapHouse x = Checks.built("#g. cd.");
        c.due("23 outside", x.image(2), -2);
        c.due("23 outside", x.image(-1), -2);
        c.due("24 outside", x.restore(2), -2);
        c.due("24 outside", x.restore(-1), -2);
        c.due("24 not kept", x.restore(0), -3);
        x.watch(2, 3, true);
        x.watch(3, 1, false);
        x.ears(4);
        x.place(0, 4);
        x.place(1, 2);
        Checks.say(x, "ab");
        c.due("23 kept", x.image(1), 1);
        c.due("24 the other is not", x.restore(0), -3);
        int bare = x.bare();
        x.house(4, 4);
        x.watch(15, 0, true);
        x.watch(15, 0, true);
        x.watch(15, 0, true);
        x.ears(0);
        x.say('c');
        c.due("23 kept", x.image(0), 1);
        c.due("24 restored", x.restore(1), 1);
        int[] due = {3, 2, 3, 4, 2, 2, 4};
        for (int i = 0; i < due.length; i++) {
            c.due("24 told " + i, x.told(i), due[i]);
        }
        int[] watchers = {2, 3, 1, 3, 1, 0};
        for (int i = 0; i < watchers.length; i++) {
            c.due("24 watchers", x.told(10 * (1 + i / 3) + i % 3), watchers[i]);
        }
        c.due("24 no more", x.told(30), -2);
        c.due("24 signs", x.cell(0), '#');
        c.due("24 signs", x.cell(3), 'c');
        c.due("24 bare", x.bare(), bare);
        x.watch(1, 1, true);
        c.due("24 again", x.restore(1), 1);
        c.due("24 the image is not touched", x.told(5), 2);
        c.due("24 the other", x.restore(0), 1);
        c.due("24 the other", x.told(2), 4);
        c.due("24 the other", x.told(5), 3);
    }

    private static void promise25(Checks c) {
        CapHouse x = Checks.built("#.. ..#");
        x.watch(4, 2, true);
        Checks.say(x, "abc");
        x.ears(5);
        int[] due = {3, 2, 3, 1, 4, 1, 5, -2, -2, -2, 4, 2, 1, -2};
        for (int i = 0; i < due.length; i++) {
            c.due("25 told " + i, x.told(i), due[i]);
        }
        for (int what : new int[] {-1, -10, 19, 20, 22, 50, 60, Integer.MAX_VALUE, Integer.MIN_VALUE}) {
            c.due("25 outside " + what, x.told(what), -2);
        }
        for (int i = 0; i < 3; i++) {
            x.watch(1, i, false);
        }
        c.due("25 the last", x.told(41), 2);
        c.due("25 beyond", x.told(43), -2);
        c.due("25 a fifth", x.told(50), -2);
    }
}
