/** Counts the answers that are not as due; every test of the project ends by end(). */
final class Due {
    private static int asked = 0;
    private static int wrong = 0;
    private static String said = "";

    private Due() {
    }

    /** The sentence of the document that the answers from here on are due by. */
    static void sentence(String words) {
        said = words + ": ";
    }

    static void is(String call, long got, long want) {
        asked++;
        if (got != want) {
            wrong++;
            System.out.println(said + call + " answered " + got + ", due is " + want);
        }
    }

    static void holds(String what, boolean holds) {
        asked++;
        if (!holds) {
            wrong++;
            System.out.println(said + "does not hold: " + what);
        }
    }

    static void same(String what, int[] got, int[] want) {
        is(what + ", how many", got.length, want.length);
        for (int i = 0; i < Math.min(got.length, want.length); i++) {
            is(what + ", number " + i, got[i], want[i]);
        }
    }

    static int asked() {
        return asked;
    }

    static void end(String test) {
        System.out.println(test + ": " + asked + " answers, " + wrong + " not as due");
        if (wrong != 0) {
            System.exit(1);
        }
    }

    /** Puts a whole text into the pad, eight characters a call; answers what the last call did. */
    static int put(GaugeColumns tester, String text) {
        int answer = 0;
        for (int from = 0; from < text.length(); from += 8) {
            answer = tester.put(packed(text.substring(from, Math.min(from + 8, text.length()))));
        }
        return answer;
    }

    static long packed(String text) {
        long characters = 0;
        for (int i = 0; i < text.length(); i++) {
            characters = characters << 8 | text.charAt(i);
        }
        return characters;
    }

    /** The fault of a text in a pad of its own. */
    static int faultOf(String text) {
        GaugeColumns tester = new GaugeColumns();
        put(tester, text);
        return tester.fault();
    }
}
