/** What the Terms say of bargains, savings, chances and images, and promises 19 to 22 and 31 to 36, sentence by sentence. */
final class BargainSentences {
    private static final int LEAST = Integer.MIN_VALUE;
    private static final int GREATEST = Integer.MAX_VALUE;
    /** Claims on t: 3 of b, 3 of c, 1 of d; on u: 2 of a. */
    private static final String SAVERS = "tavern t 0 5;tavern u 0 50;voice a 1 9 pawn u 0;voice b 1 9 pawn t 0;voice c 1 9 pawn t 0;"
            + "voice d 1 9 pawn t 0;voice e 1 9;verse v part 0 0 0 part 0 0 0 part 0;verse w part 0 0 part 0;purse 9;";

    private BargainSentences() {
    }

    static void play() {
        best();
        bestOfSeveral();
        easter();
        easterBids();
        runs();
        chances();
        undoneAndImages();
        bestCalls();
        chosenCalls();
        soldCalls();
        easterCalls();
        runCalls();
        payCalls();
        wholeCalls();
        keepCalls();
        backCalls();
        counts();
        coin();
    }

    private static void isBest(RansomHymn x, int crowns, int notes, int paid) {
        Check.same("best(" + crowns + ", 0)", x.best(crowns, 0), notes);
        Check.same("best(" + crowns + ", 1)", x.best(crowns, 1), paid);
    }

    /** The voices of all parts, one behind another; -2 for none. */
    private static void isChosen(RansomHymn x, int crowns, int... voices) {
        int at = 0;
        for (int verse = 0; verse < x.count(2); verse++) {
            for (int part = 0; part < x.verse(verse, 0); part++) {
                Check.same("chosen(" + crowns + ", " + verse + ", " + part + ")", x.chosen(crowns, verse, part), voices[at]);
                at++;
            }
        }
        Check.same("parts", at, voices.length);
    }

    private static void best() {
        Doc.says(Doc.TERMS, "BEST by crowns 0 .. 999: of each PART of all VERSES a VOICE (not CRACKED, in each VERSE once) or none, for that"
                + " many crowns in all at most as DUE is now (whoever is REDEEMED doesn't count):");
        RansomHymn x = Check.told("tavern t 0 0;voice a 1 9 pawn t 99;voice b 1 9 boy;verse v part 1 2 part 3;verse w part 4;purse 999;"
                + "law due debt*10+9-week;law crack 100;");
        isBest(x, 0, 3, 0);
        isChosen(x, 0, 1, -2, 1);
        isBest(x, 998, 3, 0);
        isBest(x, 999, 4, 999);
        isChosen(x, 999, 0, 1, 1);
        x.redeem(0, 0, 1);
        x.redeem(1, 0, 0);
        Check.same("the purse is empty", x.count(6), 0);
        isBest(x, 0, 3, 0);
        isBest(x, 999, 4, 999);
        isChosen(x, 999, 0, 1, 1);
        x.sunday();
        isBest(x, 997, 0, 0);
        isBest(x, 998, 2, 998);
        isBest(x, 999, 2, 998);
        isChosen(x, 998, 0, -2, -2);
        RansomHymn y = Check.told("tavern t 0 0;voice a 1 9 pawn t 3;verse v part 1;verse w part 1;verse x part 1;verse y part 1;");
        for (int crowns = 0; crowns <= 14; crowns++) {
            int verses = Math.min(4, crowns / 3);
            isBest(y, crowns, verses, verses * 3);
        }
        bestOfAll();
    }

    /** Texts as large as can be: 96 notes, six voices. */
    private static void bestOfAll() {
        StringBuilder text = new StringBuilder("tavern t 0 0;");
        for (int i = 0; i < 6; i++) {
            text.append("voice ").append((char) ('a' + i)).append(" 1 40 pawn t ").append(15 - i).append(';');
        }
        for (int i = 0; i < 4; i++) {
            text.append("verse ").append((char) ('a' + i)).append(" part 1 2 3 4 5 6 7 8".repeat(3)).append(';');
        }
        RansomHymn x = Check.told(text.toString());
        isBest(x, 999, 96, 4 * (10 + 11 + 12));
        isBest(x, 132, 96, 132);
        isChosen(x, 132, 3, 4, 5, 3, 4, 5, 3, 4, 5, 3, 4, 5);
        isBest(x, 131, 88, 120);
        isChosen(x, 131, 3, 4, 5, 3, 4, 5, 3, 4, 5, 4, 5, -2);
        isBest(x, 10, 8, 10);
        isChosen(x, 10, 5, -2, -2, -2, -2, -2, -2, -2, -2, -2, -2, -2);
        isBest(x, 9, 0, 0);
        RansomHymn free = Check.told(text.toString() + "law due 0;");
        isBest(free, 0, 96, 0);
        isChosen(free, 0, 0, 1, 2, 0, 1, 2, 0, 1, 2, 0, 1, 2);
        RansomHymn dear = Check.told(text.toString() + "law due 999;");
        isBest(dear, 998, 0, 0);
        isBest(dear, 999, 8, 999);
        isChosen(dear, 999, 0, -2, -2, -2, -2, -2, -2, -2, -2, -2, -2, -2);
    }

    private static void bestOfSeveral() {
        Doc.says(Doc.TERMS, "the most notes that SOUND; of several the fewest crowns; of several the first by VERSES, PARTS (VOICES by"
                + " numbers, then none).");
        RansomHymn x = Check.told("tavern t 0 0;voice a 1 9;voice b 1 20 pawn t 9;verse v part 5 15;");
        isBest(x, 8, 1, 0);
        isBest(x, 9, 2, 9);
        isChosen(x, 9, 1);
        RansomHymn y = Check.told("tavern t 0 0;voice a 1 9 pawn t 3;voice b 1 9 pawn t 2;voice c 1 9 pawn t 2;verse v part 5;");
        isBest(y, 99, 1, 2);
        isChosen(y, 99, 1);
        RansomHymn z = Check.told("tavern t 0 0;voice a 1 9 pawn t 5;verse v part 5;verse w part 5;");
        isChosen(z, 4, -2, -2);
        isChosen(z, 5, 0, -2);
        isChosen(z, 9, 0, -2);
        isChosen(z, 10, 0, 0);
        RansomHymn u = Check.told("voice a 1 9;voice b 1 20;verse v part 15 part 5;verse w part 5 part 15;verse x part 5 part 5;");
        isBest(u, 0, 6, 0);
        isChosen(u, 0, 1, 0, 0, 1, 0, 1);
        RansomHymn silent = Check.told("tavern t 0 0;voice a 30 40 pawn t 1;voice b 30 40;voice c 30 40 pawn t 0;verse v part 5 part 5 part 5;");
        isBest(silent, 99, 0, 0);
        isChosen(silent, 99, 1, 2, -2);
        RansomHymn rests = Check.told("voice a 1 9;voice b 1 9;verse v part 5 part 0 part 5;");
        isBest(rests, 0, 2, 0);
        isChosen(rests, 0, 0, -2, 1);
        RansomHymn dear = Check.told("tavern t 0 0;voice a 1 9 pawn t 1;voice b 1 9 pawn t 4;verse v part 1 part 1 1;verse w part 1 1 1;");
        isBest(dear, 1, 3, 1);
        isChosen(dear, 1, -2, -2, 0);
        isBest(dear, 2, 5, 2);
        isChosen(dear, 2, -2, 0, 0);
        isBest(dear, 6, 6, 6);
        isChosen(dear, 6, 0, 1, 0);
    }

    private static void sale(RansomHymn x, int verses, int verse, int owner, int price) {
        Check.same("sold(" + verses + ", " + verse + ", 0)", x.sold(verses, verse, 0), owner);
        Check.same("sold(" + verses + ", " + verse + ", 1)", x.sold(verses, verse, 1), price);
    }

    private static void easter() {
        Doc.says(Doc.TERMS, "EASTER of VERSES (bits): sold one behind another: each BAKER bids E (0 .. 999; 0 with an ERROR), but at most"
                + " what is left of the purse;");
        RansomHymn x = Check.told("verse a part 1;verse b part 1 1;verse c part 0;verse d part 1 1 1;baker p 10 notes*9;baker q 8 8;"
                + "baker r 999 5/rests;");
        sale(x, 15, 0, 0, 8);
        sale(x, 15, 1, 1, 2);
        sale(x, 15, 2, 1, 5);
        sale(x, 15, 3, 0, 1);
        sale(x, 8, 3, 0, 8);
        sale(x, 10, 1, 0, 8);
        sale(x, 10, 3, 1, 2);
        sale(x, 4, 2, 1, 5);
        RansomHymn y = Check.told("verse a part 1;baker p 999 9999;baker q 999 0-9999;baker r 998 1000;");
        sale(y, 1, 0, 0, 998);
        RansomHymn z = Check.told("verse a part 1;baker p 0 9999;baker q 999 1/0;baker r 999 0-1;");
        sale(z, 1, 0, -2, 0);
    }

    private static void easterBids() {
        Doc.says(Doc.TERMS, "the one with the greatest bid above 0 has it (the first of several), for the next greatest bid (0, if no other"
                + " one bids), which goes to the choir.");
        sale(Check.told("verse a part 1;baker p 9 3;baker q 9 5;baker r 9 4;"), 1, 0, 1, 4);
        sale(Check.told("verse a part 1;baker p 9 3;baker q 9 4;baker r 9 5;"), 1, 0, 2, 4);
        sale(Check.told("verse a part 1;baker p 9 5;baker q 9 3;baker r 9 4;"), 1, 0, 0, 4);
        sale(Check.told("verse a part 1;baker p 9 5;baker q 9 5;baker r 9 4;"), 1, 0, 0, 5);
        sale(Check.told("verse a part 1;baker p 9 4;baker q 9 5;baker r 9 5;"), 1, 0, 1, 5);
        sale(Check.told("verse a part 1;baker p 9 5;baker q 9 5;baker r 9 5;"), 1, 0, 0, 5);
        sale(Check.told("verse a part 1;baker p 9 0;baker q 9 5;baker r 9 0;"), 1, 0, 1, 0);
        sale(Check.told("verse a part 1;baker p 9 1;"), 1, 0, 0, 0);
        sale(Check.told("verse a part 1;baker p 9 0;baker q 9 0;"), 1, 0, -2, 0);
        sale(Check.told("verse a part 1;"), 1, 0, -2, 0);
        RansomHymn x = Check.told("verse a part 1;baker p 9 3;baker q 9 5;purse 999;");
        Check.same("goes to the choir", x.easter(1), 3);
        Check.same("beyond what a text may tell", x.count(6), 1002);
    }

    private static RansomHymn saved() {
        RansomHymn x = Check.told(SAVERS);
        x.redeem(0, 0, 1);
        x.redeem(0, 1, 2);
        x.redeem(0, 2, 3);
        x.redeem(1, 0, 0);
        x.redeem(1, 1, 4);
        x.sunday();
        return x;
    }

    private static void runs() {
        Doc.says(Doc.TERMS, "A RUN on a TAVERN: its VOICES, by numbers, are paid their CLAIMS out of its TILL, as far as that goes.");
        RansomHymn x = saved();
        Check.same("b, all", x.run(0, 1), 3);
        Check.same("c, what is left", x.run(0, 2), 2);
        Check.same("d, nothing", x.run(0, 3), 0);
        Check.same("in sum", x.run(0, -1), 5);
        Check.same("a, all", x.run(1, 0), 2);
        Check.same("in sum", x.run(1, -1), 2);
        Check.same("paid", x.pay(0), 5);
        Check.same("an empty till", x.tavern(0, 1), 0);
        Check.same("an empty till pays nothing", x.run(0, 2), 0);
        RansomHymn enough = Check.told("tavern t 0 3;voice a 1 9 pawn t 0;verse v part 0 0 0;");
        enough.redeem(0, 0, 0);
        enough.sunday();
        Check.same("just enough", enough.run(0, 0), 3);
        enough.redeem(0, 0, 0);
        enough.sunday();
        Check.same("the till isn't more", enough.run(0, 0), 3);
        RansomHymn six = Check.told("tavern t 0 9;voice a 1 9 pawn t 0;voice b 1 9 pawn t 0;voice c 1 9 pawn t 0;voice d 1 9 pawn t 0;"
                + "voice e 1 9 pawn t 0;voice f 1 9 pawn t 0;verse v part 0 part 0 0 part 0;verse w part 0 0 part 0 0 part 0 0 0;");
        for (int voice = 0; voice < 6; voice++) {
            six.redeem(voice / 3, voice % 3, voice);
        }
        six.sunday();
        Check.same("claims of six", six.tavern(0, 2), 11);
        int[] want = {9, 1, 2, 1, 2, 2, 1};
        for (int voice = -1; voice < 6; voice++) {
            Check.same("run(0, " + voice + ") of six", six.run(0, voice), want[voice + 1]);
        }
        Check.same("pay of six", six.pay(0), 9);
        Check.same("the last one's claim", six.look(5, 4), 2);
    }

    private static void whole(RansomHymn x, int voice, int n, long above, long below) {
        Check.same("whole(" + voice + ", " + n + ", 0)", x.whole(voice, n, 0), above);
        Check.same("whole(" + voice + ", " + n + ", 1)", x.whole(voice, n, 1), below);
    }

    private static void chances() {
        Doc.says(Doc.TERMS, "WHOLE: how likely a BOY isn't CRACKED n SUNDAYS on: the product of 100 less E by 100, WEEK by WEEK.");
        RansomHymn x = Check.told("voice a 1 9 boy;law crack 10*week;");
        whole(x, 0, 0, 1, 1);
        whole(x, 0, 1, 1, 1);
        whole(x, 0, 2, 9, 10);
        whole(x, 0, 3, 18, 25);
        x.sunday();
        whole(x, 0, 1, 9, 10);
        whole(x, 0, 2, 18, 25);
        whole(x, 0, 9, 567, 1562500);
        RansomHymn y = Check.told("voice a 1 9 boy;law crack (week=2)*100;");
        whole(y, 0, 2, 1, 1);
        whole(y, 0, 3, 0, 1);
        whole(y, 0, 9, 0, 1);
        whole(Check.told("voice a 1 9 boy;law crack 5/week;"), 0, 1, 1, 1);
        whole(Check.told("voice a 1 9 boy;law crack 5/week;"), 0, 2, 19, 20);
        whole(Check.told("voice a 1 9 boy;"), 0, 9, 1, 1);
        whole(Check.told("voice a 1 9 boy;law crack 1;"), 0, 9, 913517247483640899L, 1000000000000000000L);
        whole(Check.told("voice a 1 9 boy;law crack 99;"), 0, 9, 1, 1000000000000000000L);
        whole(Check.told("voice a 1 9 boy;law crack 0-50;"), 0, 9, 1, 1);
        whole(Check.told("voice a 1 9 boy;law crack 150;"), 0, 1, 0, 1);
    }

    private static void undoneAndImages() {
        Doc.says(Doc.TERMS, "Who is REDEEMED can be undone, the latest first (all of this WEEK).");
        RansomHymn x = State.full();
        x.redeem(0, 0, 0);
        x.sunday();
        x.redeem(0, 2, 1);
        x.redeem(0, 0, 3);
        x.redeem(1, 0, 3);
        Check.same("the latest", x.undo(), 2);
        Check.same("gone", x.sings(1, 0), -2);
        Check.same("the one ahead", x.undo(), 1);
        Check.same("gone", x.sings(0, 0), -2);
        Check.same("b sings", x.sings(0, 2), 1);
        Check.same("the first", x.undo(), 0);
        Check.same("of the week ahead none", x.undo(), -1);
        Doc.says(Doc.TERMS, "An IMAGE keeps all but what was HUMMED (what can be undone, too).");
        RansomHymn y = State.full();
        State.stir(y);
        y.undo();
        y.undo();
        y.easter(3);
        y.pay(0);
        y.sunday();
        y.sunday();
        y.redeem(0, 1, 1);
        y.hum(5);
        Check.same("back", y.back(), 1);
        Check.same("what was hummed stays", y.count(8), 4);
        RansomHymn z = State.full();
        State.stir(z);
        z.undo();
        z.undo();
        z.hum(5);
        State.sameFromNowOn("all else is as it was", y, z);
    }

    private static void bestCalls() {
        Doc.says(19, "BEST, what 0: notes, 1: crowns.");
        RansomHymn x = Check.told("tavern t 0 0;voice a 1 9 pawn t 4;voice b 1 9 pawn t 7;verse v part 5 6 part 7;");
        isBest(x, 0, 0, 0);
        isBest(x, 3, 0, 0);
        isBest(x, 4, 2, 4);
        isBest(x, 10, 2, 4);
        isBest(x, 11, 3, 11);
        isBest(x, 999, 3, 11);
        State.asks("best(9, 0) asks", y -> y.best(9, 0) * 0L, 0);
        State.asks("best(9, 1) asks", y -> y.best(9, 1) * 0L, 0);
        Doc.says(19, "NONE: no such ones.");
        for (int what = 0; what <= 1; what++) {
            int of = what;
            CallSentences.none("best(n, " + what + ")", n -> x.best(n, of), 1000, 1001, -1, LEAST, GREATEST);
        }
        CallSentences.none("best(0, n)", n -> x.best(0, n), 2, 3, -1, LEAST, GREATEST);
    }

    private static void chosenCalls() {
        Doc.says(20, "The VOICE of a PART in it (-2: none);");
        RansomHymn x = Check.told("tavern t 0 0;voice a 1 9 pawn t 4;voice b 1 9 pawn t 7;verse v part 5 6 part 7;");
        isChosen(x, 0, -2, -2);
        isChosen(x, 3, -2, -2);
        isChosen(x, 4, 0, -2);
        isChosen(x, 10, 0, -2);
        isChosen(x, 11, 0, 1);
        isChosen(x, 999, 0, 1);
        State.asks("chosen(9, 0, 0) asks", y -> y.chosen(9, 0, 0) * 0L, 0);
        Doc.says(20, "NONE: no such ones.");
        CallSentences.none("chosen(n, 0, 0)", n -> x.chosen(n, 0, 0), 1000, 1001, -1, LEAST, GREATEST);
        CallSentences.none("chosen(9, n, 0)", n -> x.chosen(9, n, 0), 1, 2, 4, -1, LEAST, GREATEST);
        CallSentences.none("chosen(9, 0, n)", n -> x.chosen(9, 0, n), 2, 3, -1, LEAST, GREATEST);
    }

    private static void soldCalls() {
        Doc.says(21, "EASTER as it would be: of a VERSE of these, what 0: who has it (-2: nobody), 1: for how much (0).");
        RansomHymn x = Check.told("verse a part 1 1;verse b part 0;verse c part 1;baker p 9 notes*3;baker q 9 notes*4-3;");
        sale(x, 7, 0, 0, 5);
        sale(x, 7, 1, -2, 0);
        sale(x, 7, 2, 0, 1);
        sale(x, 1, 0, 0, 5);
        sale(x, 7, 0, 0, 5);
        Check.same("p's purse is as it was", x.bids(0, 0), 6);
        RansomHymn z = Check.told("verse a part 1;baker p 9 5;baker q 9 4;");
        sale(z, 1, 0, 0, 4);
        Check.tell(z, "verse a part 1;");
        sale(z, 1, 0, -2, 0);
        Check.same("easter of no bakers", z.easter(1), 0);
        State.asks("sold(3, 1, 1) asks", y -> y.sold(3, 1, 1) * 0L, 0);
        Doc.says(21, "NONE: no such ones.");
        CallSentences.none("sold(n, 0, 0)", n -> x.sold(n, 0, 0), 8, 9, 15, 16, -1, LEAST, GREATEST, LEAST + 1);
        CallSentences.none("sold(7, n, 0)", n -> x.sold(7, n, 0), 3, 4, -1, LEAST, GREATEST, 32);
        CallSentences.none("sold(7, 0, n)", n -> x.sold(7, 0, n), 2, 3, -1, LEAST, GREATEST);
        CallSentences.none("sold(n, 0, 0), not of these", n -> x.sold(n, 0, 0), 0, 2, 4, 6);
        CallSentences.none("sold(n, 0, 1), not of these", n -> x.sold(n, 0, 1), 0, 2, 4, 6);
        CallSentences.none("sold(n, 2, 0), not of these", n -> x.sold(n, 2, 0), 0, 1, 2, 3);
    }

    private static void easterCalls() {
        Doc.says(22, "EASTER is held: the choir's purse is more by what it has by it, those of the BAKERS less by what they paid: how much"
                + " that is in all;");
        RansomHymn x = Check.told("verse a part 1 1;verse b part 1;baker p 20 notes*3;baker q 20 notes*2;purse 5;");
        Check.same("of none", x.easter(0), 0);
        Check.same("a for 4, b for 2", x.easter(3), 6);
        Check.same("choir", x.count(6), 11);
        Check.same("all coin", x.count(11), 45);
        Check.same("a for 4", x.easter(1), 4);
        Check.same("p has 10 left", x.bids(0, 0), 6);
        Check.same("a for 4, b for 2", x.easter(3), 6);
        Check.same("p has 4 left", x.bids(0, 0), 4);
        Check.same("a for 4 (q is the second), then nothing is left", x.easter(3), 4);
        Check.same("p has none left", x.bids(0, 1), 0);
        Check.same("choir", x.count(6), 25);
        Check.same("q pays nothing", x.easter(3), 0);
        Check.same("q has all", x.bids(1, 0), 4);
        Check.same("as many as there are", Check.told("verse a part 1;verse b part 1;verse c part 1;verse d part 1;baker p 9 2;baker q 9 1;")
                .easter(15), 4);
        Doc.says(22, "NONE: no such VERSES.");
        for (int verses : new int[] {4, 5, 8, 16, -1, LEAST, LEAST + 1, GREATEST}) {
            State.asks("easter(" + verses + ")", y -> y.easter(verses), -1);
        }
        Check.same("without a text", new RansomHymn().easter(1), -1);
        Check.same("a fifth of four", Check.told("verse a part 1;verse b part 1;verse c part 1;verse d part 1;").easter(16), -1);
    }

    private static void runCalls() {
        Doc.says(31, "A RUN: what a VOICE would have of its CLAIM (NONE: all of them in sum).");
        RansomHymn x = saved();
        int[] want = {5, -1, 3, 2, 0, -1};
        for (int voice = -1; voice < 5; voice++) {
            Check.same("run(0, " + voice + ")", x.run(0, voice), want[voice + 1]);
            Check.same("and once more", x.run(0, voice), want[voice + 1]);
        }
        Check.same("no claims", Check.told(SAVERS).run(0, -1), 0);
        Check.same("no claim", Check.told(SAVERS).run(0, 1), 0);
        State.asks("run(0, -1) asks", y -> y.run(0, -1) * 0L, 0);
        Doc.says(31, "NONE: no such ones (below NONE, too; PAWNED elsewhere, FREE).");
        CallSentences.none("run(n, -1)", n -> x.run(n, -1), 2, 3, -1, LEAST, GREATEST);
        CallSentences.none("run(n, 1)", n -> x.run(n, 1), 2, 3, -1, LEAST, GREATEST);
        CallSentences.none("run(0, n)", n -> x.run(0, n), 5, 6, -2, -3, LEAST, GREATEST);
        Check.same("pawned elsewhere", x.run(0, 0), -1);
        Check.same("pawned elsewhere", x.run(1, 1), -1);
        Check.same("free", x.run(0, 4), -1);
        Check.same("free, no tavern", x.run(-1, 4), -1);
    }

    private static void payCalls() {
        Doc.says(32, "A RUN: TILL and CLAIMS are less by what is paid: how much that is;");
        RansomHymn x = saved();
        Check.same("all of the till", x.pay(0), 5);
        Check.same("till", x.tavern(0, 1), 0);
        Check.same("claims", x.tavern(0, 2), 2);
        int[] claims = {2, 0, 1, 1, 0};
        for (int voice = 0; voice < 5; voice++) {
            Check.same("claim of " + voice, x.look(voice, 4), claims[voice]);
        }
        Check.same("nothing is left", x.pay(0), 0);
        Check.same("the other one", x.pay(1), 2);
        Check.same("till", x.tavern(1, 1), 48);
        Check.same("claims", x.tavern(1, 2), 0);
        Check.same("no claims are left", x.pay(1), 0);
        Check.same("all coin", x.count(11), 64);
        Check.same("the choir's purse", x.count(6), 9);
        Doc.says(32, "NONE: no such TAVERN.");
        for (int tavern : new int[] {2, 3, -1, LEAST, GREATEST}) {
            State.asks("pay(" + tavern + ")", y -> y.pay(tavern), -1);
        }
        Check.same("without a text", new RansomHymn().pay(0), -1);
    }

    private static void wholeCalls() {
        Doc.says(33, "WHOLE (n 0 .. 9) in least terms, what 0: the number above, 1: the one below (0 and 1, if it is CRACKED; 1 and 1, if it is"
                + " no BOY).");
        RansomHymn x = Check.told("voice a 1 9 boy;voice b 1 9;voice c 1 20 boy;voice d 1 40 boy;law crack high*2+20;");
        whole(x, 0, 1, 31, 50);
        whole(x, 0, 0, 1, 1);
        whole(x, 2, 2, 4, 25);
        whole(x, 3, 1, 0, 1);
        whole(x, 3, 0, 1, 1);
        whole(x, 1, 0, 1, 1);
        whole(x, 1, 9, 1, 1);
        // 62 to the 9 by 100 to the 9.
        whole(x, 0, 9, 26439622160671L, 1953125000000000L);
        x.sunday();
        for (int n = 0; n <= 9; n++) {
            whole(x, 3, n, 0, 1);
            whole(x, 1, n, 1, 1);
        }
        State.asks("whole(0, 9, 1) asks", y -> y.whole(0, 9, 1) * 0L, 0);
        Doc.says(33, "NONE: no such ones.");
        for (int voice = 0; voice < 4; voice++) {
            int of = voice;
            CallSentences.none("whole(" + voice + ", n, 0)", n -> x.whole(of, n, 0), 10, 11, -1, LEAST, GREATEST);
            CallSentences.none("whole(" + voice + ", n, 1)", n -> x.whole(of, n, 1), 10, 11, -1, LEAST, GREATEST);
            CallSentences.none("whole(" + voice + ", 1, n)", n -> x.whole(of, 1, n), 2, 3, -1, LEAST, GREATEST);
        }
        CallSentences.none("whole(n, 1, 0)", n -> x.whole(n, 1, 0), 4, 5, 6, -1, LEAST, GREATEST, 32);
    }

    private static void keepCalls() {
        Doc.says(34, "An IMAGE is kept (in place of one ahead): which WEEK it is.");
        RansomHymn x = State.full();
        Check.same("week 0", x.keep(), 0);
        Check.same("once more", x.keep(), 0);
        x.sunday();
        x.sunday();
        x.redeem(0, 0, 1);
        Check.same("week 2", x.keep(), 2);
        x.sunday();
        Check.same("that of week 2", x.back(), 2);
        Check.same("b sings", x.sings(0, 0), 1);
        Check.same("the one ahead is gone", x.back(), 2);
        x.sunday();
        Check.same("the image is there as often as it is asked for", x.back(), 2);
        Check.same("b sings", x.sings(0, 0), 1);
        RansomHymn y = State.full();
        y.keep();
        State.same("all is as it was", y, State.full());
    }

    private static void backCalls() {
        Doc.says(35, "All (but what was HUMMED) is as in the IMAGE: which WEEK it is;");
        RansomHymn x = State.full();
        RansomHymn y = State.full();
        for (RansomHymn each : new RansomHymn[] {x, y}) {
            each.redeem(0, 0, 0);
            each.redeem(0, 1, 3);
            each.easter(1);
            each.sunday();
            each.redeem(1, 0, 1);
            each.pay(0);
            each.keep();
        }
        x.easter(3);
        x.undo();
        x.redeem(0, 2, 1);
        for (int i = 0; i < 30; i++) {
            x.sunday();
        }
        x.redeem(0, 1, 3);
        x.sunday();
        x.pay(0);
        x.pay(1);
        Check.isTrue("boys are cracked", x.count(10) > y.count(10));
        Check.isTrue("all is unlike it now", !State.of(x).equals(State.of(y)));
        Check.same("which week", x.back(), 1);
        State.sameFromNowOn("all is as in the image", x, y);
        RansomHymn z = State.full();
        z.hum(9);
        z.keep();
        z.hum(30);
        z.strike(0);
        z.sunday();
        Check.same("back", z.back(), 0);
        Check.same("three are hummed", z.count(8), 3);
        Check.same("b, c, d reach 30", z.thieves(), 14);
        Check.same("a fourth", z.hum(1), 3);
        z.known(2);
        z.keep();
        z.known(-1);
        z.hum(2);
        z.back();
        Check.same("five are hummed", z.count(8), 5);
        Check.same("known by two, as in the image", z.count(9), 2);
        Check.same("9 and 30 are known", z.thieves(), 14);
        z.known(-1);
        z.keep();
        z.known(0);
        z.back();
        Check.same("known by all, as in the image", z.count(9), 5);
        Doc.says(35, "NONE: there is none.");
        Check.same("a new object", new RansomHymn().back(), -1);
        State.asksOf("none was kept", u -> u.redeem(0, 0, 0), u -> u.back(), -1);
        Check.tell(z, State.FULL);
        Check.same("of a text that is gone", z.back(), -1);
        z.keep();
        z.text(0);
        Check.same("of a text that is gone", z.back(), -1);
    }

    private static void counts() {
        Doc.says(36, "0 TAVERNS, 1 VOICES, 2 VERSES, 3 BAKERS, 4 KNOTS, 5 the WEEK, 6 the choir's purse, 7 who are REDEEMED (how many times),"
                + " 8 HUMMED, 9 by how many it is KNOWN, 10 CRACKED,");
        RansomHymn x = State.full();
        int[] told = {2, 4, 2, 2, 12, 0, 30, 0, 0, 0, 0};
        counted(x, told);
        x.redeem(0, 0, 3);
        x.redeem(1, 0, 3);
        x.hum(5);
        x.hum(6);
        x.strike(0);
        counted(x, new int[] {2, 4, 2, 2, 12, 0, 20, 2, 3, 3, 0});
        x.known(1);
        for (int i = 0; i < 100; i++) {
            x.sunday();
        }
        counted(x, new int[] {2, 4, 2, 2, 12, 100, 20, 0, 3, 1, 2});
        x.known(0);
        Check.same("by none", x.count(9), 0);
        x.known(-1);
        Check.same("by all", x.count(9), 3);
        Check.tell(x, "tavern a 1 1;tavern b 1 1;tavern c 1 1;baker a 1 1;baker b 1 1;baker c 1 1;");
        counted(x, new int[] {3, 0, 0, 3, 3, 0, 0, 0, 0, 0, 0});
        Check.tell(x, "voice a 1 1;voice b 1 1;voice c 1 1;voice d 1 1;voice e 1 1;voice f 1 1;verse a part 1;verse b part 1;"
                + "verse c part 1;verse d part 1;purse 999;");
        counted(x, new int[] {0, 6, 4, 0, 0, 0, 999, 0, 0, 0, 0});
    }

    private static void counted(RansomHymn x, int[] want) {
        for (int what = 0; what < want.length; what++) {
            Check.same("count(" + what + ")", x.count(what), want[what]);
        }
    }

    private static void coin() {
        Doc.says(36, "11 all coin: purses, TILLS, what RUNS paid.");
        RansomHymn x = Check.told("tavern t 1 2;tavern u 1 30;tavern s 1 400;voice a 1 9 pawn t 3;verse v part 0 0 5;baker p 50 6;baker q 7 5;"
                + "baker r 8 0;purse 60;");
        int all = 2 + 30 + 400 + 50 + 7 + 8 + 60;
        Check.same("as told", x.count(11), all);
        x.redeem(0, 0, 0);
        Check.same("redeemed", x.count(11), all);
        x.keep();
        x.sunday();
        Check.same("a claim is no coin", x.count(11), all);
        Check.same("a run", x.pay(0), 2);
        Check.same("what runs paid", x.count(11), all);
        Check.same("easter", x.easter(1), 5);
        Check.same("goes from purse to purse", x.count(11), all);
        x.back();
        Check.same("back", x.count(11), all);
        Check.same("the most a text can tell", Check.told("tavern a 0 9999;tavern b 0 9999;tavern c 0 9999;baker a 999 1;baker b 999 1;"
                + "baker c 999 1;purse 999;").count(11), 3 * 9999 + 4 * 999);
        x.sunday();
        x.pay(0);
        Check.tell(x, "purse 5;");
        Check.same("of another text", x.count(11), 5);
        Doc.says(36, "NONE for another what.");
        CallSentences.none("count(n)", x::count, 12, 13, -1, -2, LEAST, GREATEST);
    }
}
