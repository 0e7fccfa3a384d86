import java.util.function.IntToLongFunction;

/** Promises 6 to 18, sentence by sentence. */
final class CallSentences {
    private static final int LEAST = Integer.MIN_VALUE;
    private static final int GREATEST = Integer.MAX_VALUE;

    private CallSentences() {
    }

    static void play() {
        looking();
        lookingWrongly();
        taverns();
        verses();
        pitches();
        dues();
        soundsOfParts();
        bidsNow();
        cracksNow();
        redeeming();
        refusedRedeeming();
        undoing();
        refusedUndoing();
        whoSings();
        bars();
        sundays();
    }

    /** NONE for each of a row of wrong numbers in one place of a call; the others of the call are right ones. */
    static void none(String call, IntToLongFunction calling, int... wrong) {
        for (int number : wrong) {
            Check.same(call + " with " + number, calling.applyAsLong(number), -1);
        }
    }

    private static void looking() {
        Doc.says(6, "Of a VOICE now, what 0, 1 from which pitch, to which, 2 its TAVERN (NONE: FREE), 3 DEBT (0), 4 CLAIM, 5 0 whole, 1 a"
                + " BOY, 2 CRACKED.");
        RansomHymn x = Check.told("tavern t 1 5;tavern u 2 5;voice a 1 40 boy pawn u 99;voice b 7 8;voice c 40 40 boy;voice d 2 2 pawn t 0;"
                + "verse v part 0 0 5;purse 99;law crack debt;");
        int[][] want = {{1, 40, 1, 99, 0, 1}, {7, 8, -1, 0, 0, 0}, {40, 40, -1, 0, 0, 1}, {2, 2, 0, 0, 0, 0}};
        looks(x, want);
        x.redeem(0, 0, 0);
        looks(x, want);
        x.keep();
        x.sunday();
        want[0][4] = 2;
        want[0][5] = 2;
        looks(x, want);
        x.pay(1);
        want[0][4] = 0;
        looks(x, want);
        x.back();
        want[0][5] = 1;
        looks(x, want);
    }

    private static void looks(RansomHymn x, int[][] want) {
        for (int voice = 0; voice < want.length; voice++) {
            for (int what = 0; what < 6; what++) {
                Check.same("look(" + voice + ", " + what + ")", x.look(voice, what), want[voice][what]);
            }
        }
    }

    private static void lookingWrongly() {
        Doc.says(6, "IndexOutOfBoundsException: no such VOICE.");
        for (int voice : new int[] {4, 5, 6, -1, -2, LEAST, GREATEST}) {
            for (int what = 0; what < 6; what++) {
                Check.same("look(" + voice + ", " + what + ")", Check.thrownByLook(State.full(), voice, what), 1);
            }
        }
        Check.same("of no text", Check.thrownByLook(new RansomHymn(), 0, 0), 1);
        State.asks("look(4, 0)", x -> Check.thrownByLook(x, 4, 0), 1);
        Doc.says(6, "NoSuchElementException: no such what.");
        for (int what : new int[] {6, 7, -1, -2, LEAST, GREATEST}) {
            for (int voice = 0; voice < 4; voice++) {
                Check.same("look(" + voice + ", " + what + ")", Check.thrownByLook(State.full(), voice, what), 2);
            }
        }
        State.asks("look(0, 6)", x -> Check.thrownByLook(x, 0, 6), 2);
        for (int voice = 0; voice < 4; voice++) {
            for (int what = 0; what < 6; what++) {
                Check.same("look(" + voice + ", " + what + ")", Check.thrownByLook(State.full(), voice, what), 0);
            }
        }
    }

    private static void taverns() {
        Doc.says(7, "Of a TAVERN now, what 0 RATE, 1 TILL, 2 all CLAIMS.");
        RansomHymn x = Check.told("tavern t 99 9999;tavern u 0 0;tavern s 3 5;voice a 1 9 pawn s 2;voice b 1 9 pawn s 0;voice c 1 9 pawn t 0;"
                + "verse v part 0 part 0 0 part 0 0 0;purse 9;");
        isTavern(x, 0, 99, 9999, 0);
        isTavern(x, 1, 0, 0, 0);
        isTavern(x, 2, 3, 5, 0);
        x.redeem(0, 0, 0);
        x.redeem(0, 1, 1);
        x.redeem(0, 2, 2);
        isTavern(x, 2, 3, 7, 0);
        x.sunday();
        isTavern(x, 0, 99, 9999, 3);
        isTavern(x, 1, 0, 0, 0);
        isTavern(x, 2, 3, 7, 3);
        x.pay(2);
        isTavern(x, 2, 3, 4, 0);
        Doc.says(7, "NONE: no such ones.");
        none("tavern(n, 0)", n -> x.tavern(n, 0), 3, 4, -1, LEAST, GREATEST);
        none("tavern(0, n)", n -> x.tavern(0, n), 3, 4, -1, LEAST, GREATEST);
        none("tavern(n, 0) of two", n -> State.full().tavern(n, 0), 2);
    }

    private static void isTavern(RansomHymn x, int tavern, int rate, int till, int claims) {
        Check.same("rate of " + tavern, x.tavern(tavern, 0), rate);
        Check.same("till of " + tavern, x.tavern(tavern, 1), till);
        Check.same("claims of " + tavern, x.tavern(tavern, 2), claims);
    }

    private static void verses() {
        Doc.says(8, "Of a VERSE, what 0: how many PARTS, 1 and on: how many bars the PART what less 1 has.");
        RansomHymn x = Check.told("verse a part 1;verse b part 1 2 part 1 2 3 4 5 6 7 8;verse c part 0 part 0 0 0 part 0 0;verse d part 5 5 5;");
        int[][] want = {{1, 1}, {2, 2, 8}, {3, 1, 3, 2}, {1, 3}};
        for (int verse = 0; verse < 4; verse++) {
            for (int what = 0; what < want[verse].length; what++) {
                Check.same("verse(" + verse + ", " + what + ")", x.verse(verse, what), want[verse][what]);
            }
        }
        Doc.says(8, "NONE: no such ones.");
        for (int verse = 0; verse < 4; verse++) {
            int of = verse;
            none("verse(" + verse + ", n)", n -> x.verse(of, n), want[verse].length, 4, 5, -1, LEAST, GREATEST);
        }
        none("verse(n, 0)", n -> x.verse(n, 0), 4, 5, -1, LEAST, GREATEST);
        none("verse(n, 1)", n -> x.verse(n, 1), 4, 5, -1, LEAST, GREATEST);
    }

    private static void pitches() {
        Doc.says(9, "The pitch (0: a rest) of a bar;");
        RansomHymn x = Check.told("verse a part 1 0 40 part 2;verse b part 3 4 5 6 7 8 9 10 part 0 part 39 38;verse c part 37;verse d part 36;");
        int[][][] want = {{{1, 0, 40}, {2}}, {{3, 4, 5, 6, 7, 8, 9, 10}, {0}, {39, 38}}, {{37}}, {{36}}};
        for (int verse = 0; verse < 4; verse++) {
            for (int part = 0; part < want[verse].length; part++) {
                for (int bar = 0; bar < want[verse][part].length; bar++) {
                    Check.same("pitch(" + verse + ", " + part + ", " + bar + ")", x.pitch(verse, part, bar), want[verse][part][bar]);
                }
            }
        }
        Doc.says(9, "NONE: no such ones.");
        for (int verse = 0; verse < 4; verse++) {
            int of = verse;
            for (int part = 0; part < want[verse].length; part++) {
                int in = part;
                none("pitch(" + verse + ", " + part + ", n)", n -> x.pitch(of, in, n), want[verse][part].length, 8, -1, LEAST, GREATEST);
            }
            none("pitch(" + verse + ", n, 0)", n -> x.pitch(of, n, 0), want[verse].length, 3, 4, -1, LEAST, GREATEST);
        }
        none("pitch(n, 0, 0)", n -> x.pitch(n, 0, 0), 4, 5, -1, LEAST, GREATEST);
        RansomHymn y = Check.told("verse a part 1 2 3 part 4 5 6;");
        Check.tell(y, "verse a part 7;");
        none("pitch(0, 0, n) of a text that is gone", n -> y.pitch(0, 0, n), 1, 2);
        none("pitch(0, n, 0) of a text that is gone", n -> y.pitch(0, n, 0), 1);
    }

    private static void dues() {
        Doc.says(10, "DUE;");
        RansomHymn x = State.full();
        int[] want = {3, 4, 0, 5};
        for (int voice = 0; voice < 4; voice++) {
            Check.same("due(0, 2, " + voice + ")", x.due(0, 2, voice), want[voice]);
            Check.same("due(1, 0, " + voice + ")", x.due(1, 0, voice), want[voice]);
        }
        x.redeem(0, 0, 0);
        Check.same("of one who is redeemed", x.due(0, 0, 0), 3);
        x.sunday();
        Check.same("a week on", x.due(0, 0, 0), 4);
        Doc.says(10, "NONE: no such ones.");
        none("due(n, 0, 0)", n -> x.due(n, 0, 0), 2, 3, 4, -1, LEAST, GREATEST);
        none("due(0, n, 0)", n -> x.due(0, n, 0), 3, 4, -1, LEAST, GREATEST);
        none("due(1, n, 0)", n -> x.due(1, n, 0), 1, 2, -1);
        none("due(0, 0, n)", n -> x.due(0, 0, n), 4, 5, 6, -1, LEAST, GREATEST);
        none("due(0, n, 2) of a free one", n -> x.due(0, n, 2), 3, -1);
    }

    private static void soundsOfParts() {
        Doc.says(11, "How many notes of a PART a VOICE SOUNDS;");
        RansomHymn x = State.full();
        int[][] want = {{2, 2, 0, 2}, {2, 2, 2, 2}, {0, 1, 1, 1}};
        for (int part = 0; part < 3; part++) {
            for (int voice = 0; voice < 4; voice++) {
                Check.same("sounds(0, " + part + ", " + voice + ")", x.sounds(0, part, voice), want[part][voice]);
            }
        }
        Check.same("eight", Check.told("voice a 1 40;verse v part 1 2 3 4 5 6 39 40;").sounds(0, 0, 0), 8);
        Doc.says(11, "NONE: no such ones.");
        none("sounds(n, 0, 0)", n -> x.sounds(n, 0, 0), 2, 3, 4, -1, LEAST, GREATEST);
        none("sounds(0, n, 0)", n -> x.sounds(0, n, 0), 3, 4, -1, LEAST, GREATEST);
        none("sounds(1, n, 0)", n -> x.sounds(1, n, 0), 1, 2, -1);
        none("sounds(0, 0, n)", n -> x.sounds(0, 0, n), 4, 5, 6, -1, LEAST, GREATEST);
    }

    private static void bidsNow() {
        Doc.says(12, "What a BAKER bids for a VERSE with the purse as it is now;");
        RansomHymn x = Check.told("verse v part 1 2 3;verse w part 1;baker p 12 notes*5;baker q 4 notes*4;baker r 0 9;");
        int[][] want = {{12, 5}, {4, 4}, {0, 0}};
        for (int baker = 0; baker < 3; baker++) {
            Check.same("for v", x.bids(baker, 0), want[baker][0]);
            Check.same("for w", x.bids(baker, 1), want[baker][1]);
        }
        x.keep();
        Check.same("p pays 4", x.easter(1), 4);
        Check.same("8 are left", x.bids(0, 0), 8);
        Check.same("5 for w", x.bids(0, 1), 5);
        Check.same("p pays 4", x.easter(1), 4);
        Check.same("4 are left", x.bids(0, 1), 4);
        Check.same("p pays 4", x.easter(1), 4);
        Check.same("none is left", x.bids(0, 1), 0);
        x.back();
        Check.same("12 again", x.bids(0, 0), 12);
        Doc.says(12, "NONE: no such ones.");
        none("bids(n, 0)", n -> x.bids(n, 0), 3, 4, -1, LEAST, GREATEST);
        none("bids(0, n)", n -> x.bids(0, n), 2, 3, 4, -1, LEAST, GREATEST);
        none("bids(n, 0) of two", n -> State.full().bids(n, 0), 2);
    }

    private static void cracksNow() {
        Doc.says(13, "E of crack of a VOICE now (0 .. 100, BOY or not);");
        RansomHymn x = Check.told("voice a 1 9 boy;voice b 1 40;voice c 1 1;law crack high*3-week*5;");
        Check.same("a boy's", x.cracks(0), 27);
        Check.same("above 100", x.cracks(1), 100);
        Check.same("a man's", x.cracks(2), 3);
        x.sunday();
        Check.same("a week on", x.cracks(0), 22);
        Check.same("below 0", x.cracks(2), 0);
        Check.same("100", Check.told("voice a 1 9;law crack 100;").cracks(0), 100);
        Check.same("101", Check.told("voice a 1 9;law crack 101;").cracks(0), 100);
        Check.same("0", Check.told("voice a 1 9;law crack 0;").cracks(0), 0);
        Check.same("without", Check.told("voice a 1 9;").cracks(0), 0);
        Doc.says(13, "NONE: no such one.");
        none("cracks(n)", x::cracks, 3, 4, 5, 6, -1, LEAST, GREATEST);
    }

    private static void redeeming() {
        Doc.says(14, "REDEEMED: DUE that was paid;");
        RansomHymn x = Check.told("tavern t 0 0;voice a 1 9 pawn t 3;voice b 1 9;voice c 1 9 pawn t 0;verse v part 1 part 1 part 1;"
                + "verse w part 1;purse 6;law due debt+parts;");
        Check.same("3 and 3", x.redeem(0, 2, 0), 6);
        Check.same("till", x.tavern(0, 1), 6);
        Check.same("free", x.redeem(0, 0, 1), 0);
        Check.same("nothing is left", x.count(6), 0);
        Check.same("redeemed", x.count(7), 2);
        Doc.says(14, "-2: the choir hasn't so much;");
        Check.same("c for 3", x.redeem(0, 1, 2), -2);
        Check.same("c for 1", x.redeem(1, 0, 2), -2);
        Check.same("free for nothing", x.redeem(1, 0, 1), 0);
        // 26 crowns are left; d is due 5 and the week.
        State.asksOf("a crown too few", y -> redeemAndWait(y, 22), y -> y.redeem(1, 0, 3), -2);
        RansomHymn enough = State.full();
        redeemAndWait(enough, 21);
        Check.same("just enough", enough.redeem(1, 0, 3), 26);
        RansomHymn z = Check.told("tavern t 0 0;voice a 1 9 pawn t 9;verse v part 1;verse w part 1;purse 17;");
        Check.same("9 of 17", z.redeem(0, 0, 0), 9);
        Check.same("9 of 8", z.redeem(1, 0, 0), -2);
        Check.same("nobody sings", z.sings(1, 0), -2);
        Check.same("8 are left", z.count(6), 8);
        Check.same("in the till", z.tavern(0, 1), 9);
        RansomHymn just = Check.told("tavern t 0 0;voice a 1 9 pawn t 9;verse v part 1;verse w part 1;purse 18;");
        just.redeem(0, 0, 0);
        Check.same("9 of 9", just.redeem(1, 0, 0), 9);
    }

    private static void redeemAndWait(RansomHymn x, int weeks) {
        x.redeem(0, 0, 1);
        x.keep();
        for (int i = 0; i < weeks; i++) {
            x.sunday();
        }
    }

    private static void refusedRedeeming() {
        Doc.says(14, "NONE: no such ones, CRACKED, the PART has a VOICE, the VOICE sings in the VERSE.");
        for (int wrong : new int[] {2, 3, 4, -1, LEAST, GREATEST}) {
            State.asks("redeem(" + wrong + ", 0, 0)", x -> x.redeem(wrong, 0, 0), -1);
        }
        for (int wrong : new int[] {3, 4, -1, LEAST, GREATEST}) {
            State.asks("redeem(0, " + wrong + ", 0)", x -> x.redeem(0, wrong, 0), -1);
        }
        for (int wrong : new int[] {4, 5, 6, -1, LEAST, GREATEST}) {
            State.asks("redeem(0, 0, " + wrong + ")", x -> x.redeem(0, 0, wrong), -1);
        }
        State.asks("redeem(1, 1, 3)", x -> x.redeem(1, 1, 3), -1);
        State.asks("cracked", x -> x.redeem(0, 0, 2), -1);
        State.asks("the part has a voice", x -> x.redeem(1, 0, 0), -1);
        State.asks("the part has this voice", x -> x.redeem(1, 0, 1), -1);
        State.asks("the voice sings in the verse", x -> x.redeem(0, 0, 3), -1);
        RansomHymn y = Check.told("tavern t 0 0;voice a 1 9 boy pawn t 1;voice b 1 9 boy;voice c 1 9 pawn t 9;verse v part 1 part 1;purse 9;"
                + "law crack 100;");
        y.redeem(0, 0, 0);
        y.sunday();
        Check.same("cracked and pawned", y.redeem(0, 0, 0), -1);
        Check.same("cracked and free", y.redeem(0, 0, 1), -1);
        Check.same("cracked, nothing was paid", y.count(6), 8);
        // Refused for good, though the choir hasn't so much, either.
        Check.same("9 of 8", y.redeem(0, 0, 2), -2);
        RansomHymn z = Check.told("tavern t 0 0;voice a 1 9 pawn t 5;voice b 1 9 pawn t 5;verse v part 1 part 1;purse 5;");
        z.redeem(0, 0, 0);
        Check.same("the part has a voice, no crown", z.redeem(0, 0, 1), -1);
        Check.same("the voice sings, no crown", z.redeem(0, 1, 0), -1);
        Check.same("no crown", z.redeem(0, 1, 1), -2);
        Check.same("undone", z.undo(), 0);
        Check.same("none has the part now", z.redeem(0, 0, 1), 5);
    }

    private static void undoing() {
        Doc.says(15, "The latest of this WEEK is undone (the TILL pays back): how many are left;");
        RansomHymn x = Check.told("tavern t 0 1;tavern u 0 2;voice a 1 9 pawn t 3;voice b 1 9 pawn u 4;voice c 1 9;verse v part 1 part 1 part 1;"
                + "purse 9;");
        x.redeem(0, 1, 0);
        x.redeem(0, 0, 2);
        x.redeem(0, 2, 1);
        Check.same("b", x.undo(), 2);
        Check.same("u has paid back", x.tavern(1, 1), 2);
        Check.same("choir", x.count(6), 6);
        Check.same("c, free", x.undo(), 1);
        Check.same("choir", x.count(6), 6);
        Check.same("c doesn't sing", x.sings(0, 0), -2);
        Check.same("a sings", x.sings(0, 1), 0);
        Check.same("a", x.undo(), 0);
        Check.same("t has paid back", x.tavern(0, 1), 1);
        Check.same("choir", x.count(6), 9);
        Check.same("again", x.redeem(0, 1, 0), 3);
        StringBuilder text = new StringBuilder("voice a 1 9;voice b 1 9;voice c 1 9;");
        for (char name = 'a'; name < 'e'; name++) {
            text.append("verse ").append(name).append(" part 1 part 2 part 3;");
        }
        RansomHymn y = Check.told(text.toString());
        for (int i = 0; i < 12; i++) {
            Check.same("redeem " + i, y.redeem(i / 3, i % 3, i % 3), 0);
        }
        for (int i = 11; i >= 0; i--) {
            Check.same("undo, of twelve", y.undo(), i);
            Check.same("the latest", y.sings(i / 3, i % 3), -2);
        }
        RansomHymn z = State.full();
        z.redeem(0, 0, 0);
        z.redeem(1, 0, 3);
        z.undo();
        z.undo();
        State.sameFromNowOn("all undone", z, State.full());
    }

    private static void refusedUndoing() {
        Doc.says(15, "-2: the TILL has less than that;");
        String text = "tavern t 0 3;voice a 1 9 pawn t 4;verse v part 0 0 0 0;purse 99;";
        RansomHymn x = Check.told(text);
        x.redeem(0, 0, 0);
        x.sunday();
        x.redeem(0, 0, 0);
        Check.same("till", x.tavern(0, 1), 11);
        Check.same("a run leaves 7", x.pay(0), 4);
        Check.same("undone", x.undo(), 0);
        Check.same("till", x.tavern(0, 1), 3);
        RansomHymn y = Check.told("tavern t 0 0;voice a 1 9 pawn t 4;verse v part 0 0 0 0 0;purse 99;");
        y.redeem(0, 0, 0);
        y.sunday();
        y.redeem(0, 0, 0);
        Check.same("a run leaves 3", y.pay(0), 5);
        Check.same("a crown too few", y.undo(), -2);
        Check.same("it sings", y.sings(0, 0), 0);
        Check.same("one is redeemed", y.count(7), 1);
        Check.same("choir", y.count(6), 91);
        Check.same("till", y.tavern(0, 1), 3);
        Check.same("still", y.undo(), -2);
        Check.same("heard", y.sunday(), 0);
        Check.same("claims", y.look(0, 4), 5);
        RansomHymn just = Check.told("tavern t 0 1;voice a 1 9 pawn t 4;verse v part 0 0 0 0 0;purse 99;");
        just.redeem(0, 0, 0);
        just.sunday();
        just.redeem(0, 0, 0);
        Check.same("a run leaves 4", just.pay(0), 5);
        Check.same("just enough", just.undo(), 0);
        Check.same("an empty till", just.tavern(0, 1), 0);
        Doc.says(15, "NONE: none.");
        Check.same("a new object", new RansomHymn().undo(), -1);
        Check.same("nobody", State.full().undo(), -1);
        Check.same("undone already", just.undo(), -1);
        just.redeem(0, 0, 0);
        just.sunday();
        Check.same("of the week ahead", just.undo(), -1);
        State.asksOf("nobody", z -> z.sunday(), z -> z.undo(), -1);
    }

    private static void whoSings() {
        Doc.says(16, "Who is REDEEMED for a PART; -2: nobody;");
        RansomHymn x = State.full();
        Check.same("nobody", x.sings(0, 0), -2);
        x.redeem(0, 2, 0);
        x.redeem(0, 0, 3);
        x.redeem(1, 0, 0);
        int[] want = {3, -2, 0};
        for (int part = 0; part < 3; part++) {
            Check.same("sings(0, " + part + ")", x.sings(0, part), want[part]);
        }
        Check.same("sings(1, 0)", x.sings(1, 0), 0);
        x.undo();
        Check.same("undone", x.sings(1, 0), -2);
        x.sunday();
        Check.same("a week on", x.sings(0, 0), -2);
        Doc.says(16, "NONE: no such ones.");
        none("sings(n, 0)", n -> x.sings(n, 0), 2, 3, 4, -1, LEAST, GREATEST);
        none("sings(0, n)", n -> x.sings(0, n), 3, 4, -1, LEAST, GREATEST);
        none("sings(1, n)", n -> x.sings(1, n), 1, 2, -1);
    }

    private static void bars() {
        Doc.says(17, "PARTS (bits) that would be HEARD in a bar (0 .. 7) as it is now;");
        RansomHymn x = Check.told("voice a 5 9;voice b 1 40;voice c 1 4;verse v part 5 0 4 6 part 1 part 7 8 0 9 1 2 3 10;verse w part 1;");
        bars(x, new int[8]);
        x.redeem(0, 0, 0);
        bars(x, new int[] {1, 0, 0, 1, 0, 0, 0, 0});
        x.redeem(0, 2, 1);
        bars(x, new int[] {5, 4, 0, 5, 4, 4, 4, 4});
        x.redeem(0, 1, 2);
        bars(x, new int[] {7, 4, 0, 5, 4, 4, 4, 4});
        Check.same("another verse", x.bar(1, 0), 0);
        Check.same("a bar behind its last", x.bar(1, 7), 0);
        x.redeem(1, 0, 1);
        bars(x, new int[] {7, 4, 0, 5, 4, 4, 4, 4});
        Check.same("another verse", x.bar(1, 0), 1);
        x.undo();
        Check.same("another verse", x.bar(1, 0), 0);
        x.undo();
        bars(x, new int[] {5, 4, 0, 5, 4, 4, 4, 4});
        x.sunday();
        bars(x, new int[8]);
        StringBuilder text = new StringBuilder("voice a 1 9;voice b 1 9;voice c 1 9;");
        for (char name = 'a'; name < 'e'; name++) {
            text.append("verse ").append(name).append(" part 1 1 1 1 1 1 1 1".repeat(3)).append(';');
        }
        RansomHymn y = Check.told(text.toString());
        for (int i = 0; i < 12; i++) {
            y.redeem(i / 3, i % 3, i % 3);
        }
        for (int i = 0; i < 32; i++) {
            Check.same("all are heard", y.bar(i / 8, i % 8), 7);
        }
        Doc.says(17, "NONE: no such ones.");
        none("bar(0, n)", n -> x.bar(0, n), 8, 9, -1, LEAST, GREATEST, 32, 33);
        none("bar(n, 0)", n -> x.bar(n, 0), 2, 3, 4, -1, LEAST, GREATEST);
    }

    private static void bars(RansomHymn x, int[] want) {
        for (int bar = 0; bar < 8; bar++) {
            Check.same("bar(0, " + bar + ")", x.bar(0, bar), want[bar]);
        }
    }

    private static void sundays() {
        Doc.says(18, "SUNDAY: how many notes were HEARD.");
        RansomHymn x = State.full();
        Check.same("nobody", x.sunday(), 0);
        x.redeem(0, 1, 1);
        x.redeem(0, 0, 3);
        x.redeem(1, 0, 3);
        Check.same("2, 2 and 1", x.sunday(), 5);
        Check.same("nobody again", x.sunday(), 0);
        Check.same("week", x.count(5), 3);
        Check.same("without a text", new RansomHymn().sunday(), 0);
        RansomHymn y = new RansomHymn();
        for (int week = 1; week <= 400; week++) {
            y.sunday();
        }
        Check.same("weeks have no end", y.count(5), 400);
    }
}
