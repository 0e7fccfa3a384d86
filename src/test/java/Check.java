import java.nio.charset.StandardCharsets;

/** What the tests share: answers that are due, and objects that were told a text. */
final class Check {
    private static int checks = 0;
    private static int wrong = 0;
    private static String subject = "";

    private Check() {
    }

    static void same(String call, long got, long want) {
        checks++;
        if (got != want) {
            wrong++;
            if (wrong <= 50) {
                System.out.println(subject + call + " answered " + got + ", due is " + want);
            }
        }
    }

    static void isTrue(String what, boolean holds) {
        same(what, holds ? 1 : 0, 1);
    }

    /** What the checks that follow are of; told with those that are wrong. */
    static void about(String what) {
        subject = what.isEmpty() ? "" : what + ": ";
    }

    static int made() {
        return checks;
    }

    static int wrongSoFar() {
        return wrong;
    }

    /** The last line of every test's main. */
    static void end(String test) {
        System.out.println(test + ": " + checks + " checks, " + wrong + " wrong");
        if (wrong != 0 || checks == 0) {
            System.exit(1);
        }
    }

    /** Feeds a text; blanks fill the last feed. */
    static void feed(RansomHymn x, String text) {
        byte[] bytes = text.getBytes(StandardCharsets.ISO_8859_1);
        for (int at = 0; at < bytes.length; at += 20) {
            int[] five = new int[5];
            for (int i = 0; i < 20; i++) {
                int sign = at + i < bytes.length ? bytes[at + i] & 255 : 32;
                five[i / 4] = five[i / 4] << 8 | sign;
            }
            x.feed(five[0], five[1], five[2], five[3], five[4]);
        }
    }

    static int tell(RansomHymn x, String text) {
        feed(x, text);
        return x.text(text.length());
    }

    static RansomHymn told(String text) {
        RansomHymn x = new RansomHymn();
        int lines = tell(x, text);
        long want = text.chars().filter(sign -> sign == ';').count();
        same("text of " + text + " (fault " + x.fault(0) + " at " + x.fault(1) + ")", lines, want);
        return x;
    }

    static void faulty(String text, int fault, int place) {
        RansomHymn x = new RansomHymn();
        same("text of " + text, tell(x, text), RansomHymn.NONE);
        same("fault(0) of " + text, x.fault(0), fault);
        same("fault(1) of " + text, x.fault(1), place);
    }

    static int letters(String name) {
        int packed = 0;
        for (int i = 0; i < 6; i++) {
            packed = packed << 5 | (i < name.length() ? name.charAt(i) - 'a' + 1 : 0);
        }
        return packed;
    }

    /** 1 for IndexOutOfBoundsException, 2 for NoSuchElementException, 0 for an answer. */
    static int thrownByLook(RansomHymn x, int voice, int what) {
        try {
            x.look(voice, what);
            return 0;
        } catch (IndexOutOfBoundsException e) {
            return e.getClass() == IndexOutOfBoundsException.class ? 1 : 3;
        } catch (java.util.NoSuchElementException e) {
            return e.getClass() == java.util.NoSuchElementException.class ? 2 : 3;
        }
    }
}
