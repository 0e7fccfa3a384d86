/** What the Terms say of humming and rounds, and promises 23 to 30, sentence by sentence. */
final class HumSentences {
    private static final int LEAST = Integer.MIN_VALUE;
    private static final int GREATEST = Integer.MAX_VALUE;
    /** Bars 0 and 3 sound by a, bar 1 by b, bars 0, 1 and 3 by c. */
    private static final String ROUND = "voice a 1 10;voice b 11 20;voice c 1 20 boy;verse v part 5 15 0 5 part 30;law crack 100;";

    private HumSentences() {
    }

    static void play() {
        hummed();
        knownOnes();
        struckStrikes();
        suspects();
        gangs();
        rounds();
        fewestGaps();
        humming();
        striking();
        knowing();
        thievesAndOdds();
        gangCalls();
        roundCalls();
        entryCalls();
    }

    private static void hums(RansomHymn x, int... pitches) {
        for (int pitch : pitches) {
            x.hum(pitch);
        }
    }

    private static void hummed() {
        Doc.says(Doc.TERMS, "HUMMED, at most 24, numbered from 0 on: a pitch. A STRIKE of one.");
        RansomHymn x = new RansomHymn();
        for (int i = 0; i < 24; i++) {
            Check.same("number " + i, i % 3 == 2 ? x.strike(i - 1) : x.hum(i + 1), i);
            Check.same("how many", x.count(8), i + 1);
        }
        Check.same("a 25th pitch", x.hum(1), -1);
        Check.same("a 25th, a strike", x.strike(0), -1);
        Check.same("24", x.count(8), 24);
    }

    private static void knownOnes() {
        Doc.says(Doc.TERMS, "KNOWN by n (all at first): the first n that aren't STRUCK by one of these");
        RansomHymn x = Check.told("voice a 1 10;voice b 1 20;voice c 1 30;voice d 15 40;");
        Check.same("none is known: all", x.thieves(), 15);
        hums(x, 5);
        Check.same("all at first", x.thieves(), 7);
        hums(x, 20, 30);
        Check.same("all at first", x.thieves(), 4);
        Check.same("three", x.count(9), 3);
        x.strike(2);
        x.strike(1);
        int[] want = {15, 7, 6, 4, 6, 7};
        for (int n = 5; n >= 0; n--) {
            x.known(n);
            Check.same("by " + n, x.count(9), n);
            Check.same("thieves by " + n, x.thieves(), want[n]);
        }
        for (int n = 0; n <= 5; n++) {
            x.known(n);
            Check.same("thieves by " + n, x.thieves(), want[n]);
        }
        x.known(3);
        x.hum(40);
        Check.same("those behind don't count", x.thieves(), 4);
        x.strike(2);
        Check.same("a strike behind doesn't count", x.thieves(), 4);
        x.known(-1);
        Check.same("5 and 40", x.thieves(), 0);
    }

    private static void struckStrikes() {
        Doc.says(Doc.TERMS, "(a STRIKE may be STRUCK: then it doesn't count; asked from the last one on).");
        RansomHymn x = Check.told("voice a 1 10;voice b 1 20;");
        hums(x, 15);
        Check.same("b", x.thieves(), 2);
        for (int i = 1; i < 24; i++) {
            Check.same("a strike of the last one", x.strike(i - 1), i);
            Check.same(i + " strikes", x.thieves(), i % 2 == 1 ? 3 : 2);
        }
        for (int n = 1; n <= 24; n++) {
            x.known(n);
            Check.same("by " + n, x.thieves(), n % 2 == 0 ? 3 : 2);
        }
        RansomHymn y = Check.told("voice a 1 10;voice b 1 20;");
        hums(y, 15);
        y.strike(0);
        y.strike(0);
        y.strike(1);
        Check.same("struck by the other one", y.thieves(), 3);
        y.strike(2);
        Check.same("both strikes are struck", y.thieves(), 2);
        y.strike(3);
        Check.same("the first one counts again", y.thieves(), 3);
        y.strike(5);
        Check.same("and doesn't", y.thieves(), 2);
    }

    private static void suspects() {
        Doc.says(Doc.TERMS, "THIEVES: VOICES (not CRACKED) that reach all KNOWN ones.");
        RansomHymn x = Check.told("voice a 10 20;voice b 1 40 boy;voice c 20 20;voice d 21 40 boy;voice e 1 19;law crack high*2;");
        Check.same("nothing is known", x.thieves(), 31);
        hums(x, 20);
        Check.same("20: from low to high", x.thieves(), 7);
        hums(x, 10);
        Check.same("20 and 10", x.thieves(), 3);
        hums(x, 20, 10, 10);
        Check.same("more than once", x.thieves(), 3);
        hums(x, 9);
        Check.same("9, a pitch below", x.thieves(), 2);
        x.strike(5);
        hums(x, 21);
        Check.same("21, a pitch above", x.thieves(), 2);
        x.keep();
        for (int i = 0; i < 100 && x.count(10) < 2; i++) {
            x.sunday();
        }
        Check.same("cracked", x.thieves(), 0);
        x.known(0);
        Check.same("nothing is known, cracked ones are none", x.thieves(), 21);
        Doc.says(Doc.TERMS, "ODDS of one: its odds of those of all THIEVES.");
        RansomHymn y = Check.told("voice a 1 10 odds 3;voice b 1 20 odds 4;voice c 1 30 odds 92;");
        odds(y, 0, 3, 99);
        hums(y, 20);
        odds(y, 1, 1, 24);
        odds(y, 2, 23, 24);
        odds(y, 0, 0, 1);
        hums(y, 30);
        odds(y, 2, 1, 1);
        odds(y, 1, 0, 1);
    }

    private static void odds(RansomHymn x, int voice, int above, int below) {
        Check.same("odds above of " + voice, x.odds(voice, 0), above / gcd(above, below));
        Check.same("odds below of " + voice, x.odds(voice, 1), below / gcd(above, below));
    }

    private static int gcd(int a, int b) {
        return b == 0 ? a : gcd(b, a % b);
    }

    private static void gangs() {
        Doc.says(Doc.TERMS, "GANG: the fewest VOICES (then the least bits) of which each KNOWN one is reached by one.");
        RansomHymn x = Check.told("voice a 1 5;voice b 6 10;voice c 11 15;voice d 4 12;voice e 1 7;voice f 9 40 boy;law crack 100;");
        Check.same("nothing is known", x.gang(), 0);
        hums(x, 5);
        Check.same("5: the least bits of a, d, e", x.gang(), 1);
        hums(x, 7);
        Check.same("5, 7: d, not a and b", x.gang(), 8);
        hums(x, 1);
        Check.same("1, 5, 7: e", x.gang(), 16);
        hums(x, 11);
        Check.same("and 11: a and d are less than c and e", x.gang(), 1 + 8);
        hums(x, 9);
        Check.same("and 9: a and d", x.gang(), 1 + 8);
        hums(x, 15);
        Check.same("and 15: e and f", x.gang(), 16 + 32);
        x.sunday();
        Check.same("f is cracked: a, b, c", x.gang(), 7);
        hums(x, 16);
        Check.same("16: nobody", x.gang(), -2);
        x.known(5);
        Check.same("by 5", x.gang(), 1 + 8);
    }

    private static void rounds() {
        Doc.says(Doc.TERMS, "ROUND of a PART by n VOICES (unlike, not CRACKED), the k-th (0 up) k times d bars behind the first: a bar from"
                + " the first one to the last one of the last VOICE is a GAP, if nobody SOUNDS then.");
        RansomHymn x = Check.told(ROUND);
        for (int d = 1; d <= 8; d++) {
            Check.same("one voice", x.round(0, 0, 1, d), 1);
        }
        Check.same("two, a bar behind", x.round(0, 0, 2, 1), 0);
        Check.same("two, eight bars behind: 12 bars, 5 sound", x.round(0, 0, 2, 8), 7);
        Check.same("three, a bar behind", x.round(0, 0, 3, 1), 1);
        Check.same("three, eight bars behind: 20 bars, 6 sound", x.round(0, 0, 3, 8), 14);
        Check.same("nobody reaches it: all are gaps", x.round(0, 1, 3, 8), 17);
        Check.same("unlike: not four of three", x.round(0, 0, 4, 1), -2);
        x.sunday();
        Check.same("c is cracked", x.round(0, 0, 1, 1), 2);
        Check.same("a and b", x.round(0, 0, 2, 1), 2);
        Check.same("not three of two", x.round(0, 0, 3, 1), -2);
        String rests = " part 0 0 0 0 0 0 0 0";
        RansomHymn y = Check.told("voice a 1 40;voice b 1 40;voice c 1 40;voice d 1 40;voice e 1 40;voice f 1 40;verse v" + rests
                + " part 1 1 1 1 1 1 1 1 part 0 0 0 0 0 0 0 1;");
        Check.same("32 bars of rests", y.round(0, 0, 4, 8), 32);
        Check.same("32 bars of notes", y.round(0, 1, 4, 8), 0);
        Check.same("11 bars of notes", y.round(0, 1, 4, 1), 0);
        Check.same("rests ahead of the first note count", y.round(0, 2, 4, 1), 7);
        Check.same("32 bars, four sound", y.round(0, 2, 4, 8), 28);
    }

    private static void row(RansomHymn x, int part, int d, int... voices) {
        for (int k = 0; k < voices.length; k++) {
            Check.same("voice " + k + " of " + voices.length + ", d " + d, x.entry(0, part, voices.length, d, k), voices[k]);
        }
    }

    private static void fewestGaps() {
        Doc.says(Doc.TERMS, "The fewest GAPS; of several rows of VOICES the first by numbers.");
        RansomHymn x = Check.told(ROUND);
        row(x, 0, 1, 2);
        row(x, 0, 1, 0, 2);
        row(x, 0, 8, 0, 2);
        row(x, 0, 1, 0, 2, 1);
        row(x, 0, 8, 0, 1, 2);
        row(x, 1, 3, 0);
        row(x, 1, 3, 0, 1);
        row(x, 1, 3, 0, 1, 2);
        RansomHymn y = Check.told("voice a 30 40;voice b 1 9;voice c 1 9;voice d 1 9;voice e 1 9;voice f 1 9;verse v part 5;");
        row(y, 0, 1, 1);
        row(y, 0, 1, 1, 2);
        row(y, 0, 1, 1, 2, 3);
        row(y, 0, 1, 1, 2, 3, 4);
        RansomHymn z = Check.told("voice a 1 9;voice b 10 19;voice c 20 29;voice d 30 39;voice e 1 2;voice f 1 40;verse v part 35 25 15 5;");
        Check.same("each in turn could be silent", z.round(0, 0, 2, 4), 3);
        row(z, 0, 4, 0, 5);
        row(z, 0, 4, 0, 1, 5);
    }

    private static void humming() {
        Doc.says(23, "HUMMED (1 .. 40): its number;");
        RansomHymn x = Check.told("voice a 1 1;voice b 40 40;");
        Check.same("hum(1)", x.hum(1), 0);
        Check.same("a", x.thieves(), 1);
        Check.same("hum(40)", x.hum(40), 1);
        Check.same("nobody", x.thieves(), 0);
        Check.same("both", x.gang(), 3);
        Check.same("hum(20)", x.hum(20), 2);
        Check.same("nobody reaches 20", x.gang(), -2);
        Doc.says(23, "NONE: no such pitch, or there are 24.");
        for (int pitch : new int[] {0, 41, 42, -1, -40, LEAST, GREATEST, 65, 64}) {
            State.asks("hum(" + pitch + ")", y -> y.hum(pitch), -1);
        }
        State.asksOf("a 25th", y -> fill(y, 24), y -> y.hum(1), -1);
        RansomHymn z = State.full();
        fill(z, 23);
        Check.same("the 24th", z.hum(1), 23);
    }

    private static void fill(RansomHymn x, int many) {
        for (int i = 0; i < many; i++) {
            x.hum(9 + i % 5);
        }
    }

    private static void striking() {
        Doc.says(24, "A STRIKE: its number;");
        RansomHymn x = Check.told("voice a 1 9;");
        hums(x, 10, 11);
        Check.same("strike(0)", x.strike(0), 2);
        Check.same("nobody reaches 11", x.thieves(), 0);
        Check.same("strike(1)", x.strike(1), 3);
        Check.same("a", x.thieves(), 1);
        Check.same("of a strike", x.strike(3), 4);
        Check.same("nobody reaches 11", x.thieves(), 0);
        Doc.says(24, "NONE: no such one HUMMED, or there are 24.");
        Check.same("nothing is hummed", State.full().strike(0), -1);
        for (int hummed : new int[] {3, 4, 23, 24, -1, -2, LEAST, GREATEST, 32}) {
            State.asks("strike(" + hummed + ")", y -> y.strike(hummed), -1);
        }
        State.asksOf("a 25th", y -> fill(y, 24), y -> y.strike(0), -1);
        RansomHymn z = State.full();
        fill(z, 23);
        Check.same("none such yet", z.strike(23), -1);
        Check.same("the 24th", z.strike(22), 23);
        Check.same("full", z.strike(23), -1);
    }

    private static int asInt(boolean answer) {
        return answer ? 1 : 0;
    }

    private static void knowing() {
        Doc.says(25, "KNOWN by n from now on (-1: by all, also those to come): true;");
        RansomHymn x = Check.told("voice a 1 10;voice b 1 20;");
        Check.same("known(0) of none", asInt(x.known(0)), 1);
        hums(x, 15);
        Check.same("none is known", x.thieves(), 3);
        Check.same("known(1)", asInt(x.known(1)), 1);
        Check.same("15 is known", x.thieves(), 2);
        hums(x, 25);
        Check.same("25 isn't", x.thieves(), 2);
        Check.same("known(-1)", asInt(x.known(-1)), 1);
        Check.same("both are", x.thieves(), 0);
        x.strike(1);
        Check.same("and the strike to come", x.thieves(), 2);
        Check.same("by three", x.count(9), 3);
        Check.same("known(3)", asInt(x.known(3)), 1);
        hums(x, 25);
        Check.same("from now on by three", x.count(9), 3);
        Check.same("25 isn't", x.thieves(), 2);
        Check.same("known(0)", asInt(x.known(0)), 1);
        Check.same("none is", x.thieves(), 3);
        Doc.says(25, "false: no such n.");
        for (int n : new int[] {4, 5, 24, 25, -2, -3, LEAST, GREATEST}) {
            State.asks("known(" + n + ")", y -> asInt(y.known(n)), 0);
        }
        State.asksOf("known(1) of none", y -> y.keep(), y -> asInt(y.known(1)), 0);
        RansomHymn z = State.full();
        fill(z, 24);
        Check.same("known(24)", asInt(z.known(24)), 1);
        Check.same("known(25)", asInt(z.known(25)), 0);
        Check.same("by 24", z.count(9), 24);
    }

    private static void thievesAndOdds() {
        Doc.says(26, "THIEVES (bits).");
        RansomHymn x = Check.told("voice a 1 1;voice b 2 2;voice c 1 2;voice d 2 3;voice e 3 3;voice f 1 3 odds 99;");
        int[] want = {1 + 4 + 32, 2 + 4 + 8 + 32, 8 + 16 + 32};
        for (int pitch = 1; pitch <= 3; pitch++) {
            RansomHymn y = Check.told("voice a 1 1;voice b 2 2;voice c 1 2;voice d 2 3;voice e 3 3;voice f 1 3;");
            y.hum(pitch);
            Check.same("of " + pitch, y.thieves(), want[pitch - 1]);
        }
        Check.same("of none", x.thieves(), 63);
        hums(x, 1, 3);
        Check.same("of 1 and 3", x.thieves(), 32);
        hums(x, 4);
        Check.same("nobody", x.thieves(), 0);
        State.asks("thieves() asks", y -> y.thieves() * 0L, 0);
        Doc.says(27, "ODDS of a VOICE in least terms, what 0: the number above, 1: the one below (0 and 1, if it is no THIEF).");
        RansomHymn z = Check.told("voice a 1 5 odds 6;voice b 1 9 odds 10;voice c 1 20 odds 14 ;voice d 9 20 boy odds 99;law crack 100;");
        odds(z, 0, 6, 129);
        odds(z, 3, 99, 129);
        z.sunday();
        odds(z, 0, 1, 5);
        odds(z, 1, 1, 3);
        odds(z, 2, 7, 15);
        odds(z, 3, 0, 1);
        hums(z, 9);
        odds(z, 0, 0, 1);
        odds(z, 1, 5, 12);
        hums(z, 20);
        odds(z, 2, 1, 1);
        hums(z, 21);
        odds(z, 2, 0, 1);
        Doc.says(27, "NONE: no such ones.");
        CallSentences.none("odds(n, 0)", n -> z.odds(n, 0), 4, 5, 6, -1, LEAST, GREATEST, 32);
        CallSentences.none("odds(n, 1)", n -> z.odds(n, 1), 4, 5, 6, -1, LEAST, GREATEST, 32);
        CallSentences.none("odds(0, n)", n -> z.odds(0, n), 2, 3, -1, LEAST, GREATEST);
        CallSentences.none("odds(3, n)", n -> z.odds(3, n), 2, 3, -1, LEAST, GREATEST);
    }

    private static void gangCalls() {
        Doc.says(28, "GANG (bits);");
        RansomHymn x = Check.told("voice a 1 1;voice b 2 2;voice c 3 3;voice d 4 4;voice e 5 5;voice f 6 6;");
        int want = 0;
        for (int pitch = 6; pitch >= 1; pitch--) {
            Check.same("those of " + (6 - pitch), x.gang(), want);
            x.hum(pitch);
            want |= 1 << pitch - 1;
        }
        Check.same("all six", x.gang(), 63);
        Doc.says(28, "-2: there is none.");
        x.hum(7);
        Check.same("nobody reaches 7", x.gang(), -2);
        x.strike(6);
        Check.same("7 is struck", x.gang(), 63);
        RansomHymn y = new RansomHymn();
        Check.same("no voice, nothing known", y.gang(), 0);
        y.hum(40);
        Check.same("no voice", y.gang(), -2);
        RansomHymn z = Check.told("voice a 1 40 boy;law crack 100;");
        z.hum(40);
        Check.same("a", z.gang(), 1);
        z.sunday();
        Check.same("cracked", z.gang(), -2);
        z.known(0);
        Check.same("nothing known", z.gang(), 0);
    }

    private static void roundCalls() {
        Doc.says(29, "ROUND (n 1 .. 4, d 1 .. 8): how many GAPS; -2: there are not so many VOICES;");
        RansomHymn x = Check.told("voice a 1 9;voice b 1 9 boy;voice c 1 9;voice d 1 9;verse v part 5 0;law crack 100;");
        for (int d = 1; d <= 8; d++) {
            Check.same("one", x.round(0, 0, 1, d), 1);
            for (int n = 2; n <= 4; n++) {
                Check.same(n + ", " + d + " bars behind", x.round(0, 0, n, d), 2 + (n - 1) * d - n);
            }
        }
        x.sunday();
        Check.same("three are left", x.round(0, 0, 3, 1), 1);
        Check.same("four", x.round(0, 0, 4, 1), -2);
        Check.same("no voice", Check.told("verse v part 5;").round(0, 0, 1, 1), -2);
        Doc.says(29, "NONE: no such ones.");
        CallSentences.none("round(n, 0, 1, 1)", n -> x.round(n, 0, 1, 1), 1, 2, 4, -1, LEAST, GREATEST);
        CallSentences.none("round(0, n, 1, 1)", n -> x.round(0, n, 1, 1), 1, 2, 3, -1, LEAST, GREATEST);
        CallSentences.none("round(0, 0, n, 1)", n -> x.round(0, 0, n, 1), 0, 5, 6, -1, LEAST, GREATEST);
        CallSentences.none("round(0, 0, 1, n)", n -> x.round(0, 0, 1, n), 0, 9, 10, -1, LEAST, GREATEST);
        CallSentences.none("round(0, 0, 4, n), not so many", n -> x.round(0, 0, 4, n), 0, 9, -1);
        CallSentences.none("round(0, n, 4, 1), not so many", n -> x.round(0, n, 4, 1), 1, -1);
    }

    private static void entryCalls() {
        Doc.says(30, "The k-th VOICE of it;");
        RansomHymn x = Check.told(ROUND);
        row(x, 0, 1, 0, 2, 1);
        Check.same("of one", x.entry(0, 0, 1, 8, 0), 2);
        x.sunday();
        Check.same("c is cracked", x.entry(0, 0, 1, 8, 0), 0);
        row(x, 0, 1, 0, 1);
        Doc.says(30, "-2, NONE likewise (k not 0 .. n less 1).");
        Check.same("not so many", x.entry(0, 0, 3, 1, 0), -2);
        Check.same("not so many", x.entry(0, 0, 4, 8, 3), -2);
        CallSentences.none("entry(n, 0, 1, 1, 0)", n -> x.entry(n, 0, 1, 1, 0), 1, 2, 4, -1, LEAST, GREATEST);
        CallSentences.none("entry(0, n, 1, 1, 0)", n -> x.entry(0, n, 1, 1, 0), 2, 3, -1, LEAST, GREATEST);
        CallSentences.none("entry(0, 0, n, 1, 0)", n -> x.entry(0, 0, n, 1, 0), 0, 5, 6, -1, LEAST, GREATEST);
        CallSentences.none("entry(0, 0, 1, n, 0)", n -> x.entry(0, 0, 1, n, 0), 0, 9, 10, -1, LEAST, GREATEST);
        CallSentences.none("entry(0, 0, 1, 1, n)", n -> x.entry(0, 0, 1, 1, n), 1, 2, 3, 4, -1, LEAST, GREATEST);
        CallSentences.none("entry(0, 0, 2, 1, n)", n -> x.entry(0, 0, 2, 1, n), 2, 3, 4, -1, LEAST, GREATEST);
        RansomHymn y = Check.told("voice a 1 9;voice b 1 9;voice c 1 9;voice d 1 9;verse v part 5 0;");
        CallSentences.none("entry(0, 0, 3, 1, n)", n -> y.entry(0, 0, 3, 1, n), 3, 4, -1, LEAST, GREATEST);
        CallSentences.none("entry(0, 0, 4, 1, n)", n -> y.entry(0, 0, 4, 1, n), 4, 5, -1, LEAST, GREATEST);
    }
}
