/** Counts what is as due and prints what is not. */
final class Checks {
    private int passed;
    private int failed;

    void due(String what, long got, long want) {
        if (got == want) {
            passed++;
            return;
        }
        failed++;
        System.out.println(what + ": got " + got + ", due is " + want);
    }

    void holds(String what, boolean good) {
        due(what, good ? 1 : 0, 1);
    }

    int passed() {
        return passed;
    }

    int failed() {
        return failed;
    }

    /** Says the signs of a text on the pad. */
    static void say(CapHouse x, String text) {
        for (int i = 0; i < text.length(); i++) {
            x.say(text.charAt(i));
        }
    }

    /** A new object with a house of rows parted by blanks. */
    static CapHouse built(String rows) {
        CapHouse x = new CapHouse();
        String[] parts = rows.split(" ");
        x.house(parts.length, parts[0].length());
        say(x, rows.replace(" ", ""));
        x.build();
        return x;
    }

    /** Wipes the pad and tells a walk. */
    static CapHouse walk(CapHouse x, String steps) {
        x.wipe();
        say(x, steps);
        return x;
    }
}
