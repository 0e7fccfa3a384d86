import java.math.BigInteger;

/** What the Terms say in their part 2: laws, who is redeemed, and Sundays, sentence by sentence. */
final class ChoirSentences {
    private static final String TRILLION = "1000*1000*1000*1000";

    private ChoirSentences() {
    }

    static void play() {
        sounding();
        dues();
        namesOfDue();
        namesOfCrack();
        namesOfBakers();
        values();
        errors();
        redeeming();
        singing();
        saving();
        cracking();
        numbersDrawn();
    }

    private static void value(String formula, int want) {
        Check.same(formula, TextSentences.value(formula), want);
    }

    /** The first numbers of a seed, modulo 100. */
    static int[] numbers(long seed, int many) {
        BigInteger last = BigInteger.valueOf(seed);
        int[] row = new int[many];
        for (int i = 0; i < many; i++) {
            last = last.multiply(BigInteger.valueOf(1103515245)).add(BigInteger.valueOf(12345)).mod(BigInteger.ONE.shiftLeft(31));
            row[i] = last.divide(BigInteger.valueOf(65536)).mod(BigInteger.valueOf(100)).intValue();
        }
        return row;
    }

    /** How many numbers of a seed come ahead of the first one below a bound. */
    static int firstBelow(long seed, int bound) {
        int[] row = numbers(seed, 400);
        for (int i = 0; i < row.length; i++) {
            if (row[i] < bound) {
                return i;
            }
        }
        return -1;
    }

    private static void sounding() {
        Doc.says(Doc.TERMS, "A VOICE SOUNDS a note of a PART that is from its low to its high pitch (none, if it is CRACKED).");
        RansomHymn x = Check.told("voice a 10 20;voice b 10 10;voice c 1 40;voice d 40 40 boy;voice e 2 8;"
                + "verse v part 9 10 15 20 21 0 40 1 part 0 0;law crack 100;");
        int[] want = {3, 1, 7, 1, 0};
        for (int voice = 0; voice < 5; voice++) {
            Check.same("voice " + voice, x.sounds(0, 0, voice), want[voice]);
            Check.same("rests of voice " + voice, x.sounds(0, 1, voice), 0);
        }
        x.redeem(0, 0, 3);
        Check.same("whole, it is heard", x.bar(0, 6), 1);
        x.sunday();
        want[3] = 0;
        for (int voice = 0; voice < 5; voice++) {
            Check.same("a week on, voice " + voice, x.sounds(0, 0, voice), want[voice]);
        }
    }

    private static void dues() {
        Doc.says(Doc.TERMS, "DUE of a VOICE for a PART: due's E (0 .. 999; DEBT without, with an ERROR), 0 if it is FREE.");
        value("0", 0);
        value("999", 999);
        value("1000", 999);
        value("9999*9999*9999", 999);
        value("0-1", 0);
        value("0-9999*9999*9999", 0);
        value("1/0", 13);
        value("9999*9999*9999*9999", 13);
        RansomHymn x = Check.told("tavern t 0 0;voice a 1 9 pawn t 0;voice b 1 9 pawn t 99;voice c 1 9;verse v part 1;");
        Check.same("debt 0 without", x.due(0, 0, 0), 0);
        Check.same("debt 99 without", x.due(0, 0, 1), 99);
        Check.same("free without", x.due(0, 0, 2), 0);
        RansomHymn y = Check.told("tavern t 0 0;voice a 1 9 pawn t 0;voice b 1 9 pawn t 99;voice c 1 9;verse v part 1;law due 5/week;");
        Check.same("debt 0 with an error", y.due(0, 0, 0), 0);
        Check.same("debt 99 with an error", y.due(0, 0, 1), 99);
        Check.same("free with an error", y.due(0, 0, 2), 0);
        y.sunday();
        Check.same("5", y.due(0, 0, 0), 5);
        Check.same("5", y.due(0, 0, 1), 5);
        Check.same("free", y.due(0, 0, 2), 0);
    }

    private static void namesOfDue() {
        Doc.says(Doc.TERMS, "NAMES: debt; rate: of its TAVERN (0 without);");
        RansomHymn x = Check.told("tavern t 7 0;tavern u 99 0;voice a 1 9 pawn u 98;voice b 1 9 pawn t 6;voice c 1 9;verse v part 1;"
                + "law due debt*10+rate;law crack debt+rate;");
        Check.same("debt 98, rate 99 (beyond 999)", x.due(0, 0, 0), 999);
        Check.same("debt 6, rate 7", x.due(0, 0, 1), 67);
        Check.same("debt 6, rate 7 of crack", x.cracks(1), 13);
        Check.same("free: debt 0, rate 0", x.cracks(2), 0);
        Doc.says(Doc.TERMS, "notes: how many it SOUNDS; rests: those of the PART;");
        RansomHymn y = Check.told("tavern t 0 0;voice a 5 9 boy pawn t 1;verse v part 4 5 9 10 0 0 part 1 part 0 0 0 0 0 0 0 0;"
                + "verse w part 5 6 7 8 9 5 6 7;law due notes*10+rests;law crack 100;");
        Check.same("2 notes, 2 rests", y.due(0, 0, 0), 22);
        Check.same("no note it reaches, no rest", y.due(0, 1, 0), 0);
        Check.same("8 rests", y.due(0, 2, 0), 8);
        Check.same("8 notes", y.due(1, 0, 0), 80);
        y.sunday();
        Check.same("cracked: no note", y.due(0, 0, 0), 2);
        Doc.says(Doc.TERMS, "high: the PART's greatest pitch; week; parts: those of the VERSE.");
        RansomHymn z = Check.told("tavern t 0 0;voice a 5 9 pawn t 1;verse v part 4 40 3 part 0 0 part 7;verse w part 12;"
                + "law due high*10+week*3+parts;");
        Check.same("high 40, beyond its reach", z.due(0, 0, 0), 403);
        Check.same("no pitch", z.due(0, 1, 0), 3);
        Check.same("high 7", z.due(0, 2, 0), 73);
        Check.same("high 12, one part", z.due(1, 0, 0), 121);
        z.sunday();
        z.sunday();
        Check.same("week 2", z.due(1, 0, 0), 127);
    }

    private static void namesOfCrack() {
        Doc.says(Doc.TERMS, "Of crack: notes, rests, parts 0, high: the VOICE's high pitch.");
        String text = "tavern t 2 0;voice a 5 9 boy pawn t 1;voice b 1 40;verse v part 5 6 0 part 7;purse 9;law crack ";
        Check.same("notes, rests, parts", Check.told(text + "notes+rests+parts;").cracks(0), 0);
        RansomHymn x = Check.told(text + "high*2+week;");
        Check.same("high 9", x.cracks(0), 18);
        Check.same("high 40", x.cracks(1), 80);
        x.redeem(0, 0, 0);
        Check.same("who is redeemed doesn't matter", x.cracks(0), 18);
        x.sunday();
        Check.same("week 1", x.cracks(1), 81);
        Check.same("debt, rate", Check.told(text + "debt*10+rate;").cracks(0), 12);
    }

    private static void namesOfBakers() {
        Doc.says(Doc.TERMS, "Of a BAKER: debt, rate 0, notes, rests: of all PARTS; high: the greatest pitch of all; parts.");
        RansomHymn x = Check.told("tavern t 9 9;voice a 1 2 pawn t 9;verse v part 30 0 4 part 0 0 part 9 39 8;verse w part 40;"
                + "verse z part 0 0 0;baker p 999 debt+rate;baker q 999 notes*100+rests*10+parts;baker r 999 high*10+week;");
        Check.same("debt, rate", x.bids(0, 0), 0);
        Check.same("5 notes, 3 rests, 3 parts", x.bids(1, 0), 533);
        Check.same("1 note, no rest, 1 part", x.bids(1, 1), 101);
        Check.same("no note, 3 rests, 1 part", x.bids(1, 2), 31);
        Check.same("high 39, of the last part", x.bids(2, 0), 390);
        Check.same("high 40", x.bids(2, 1), 400);
        Check.same("no pitch", x.bids(2, 2), 0);
        x.sunday();
        Check.same("week 1", x.bids(2, 0), 391);
    }

    private static void values() {
        Doc.says(Doc.TERMS, "VALUES are longs;");
        value("9999*9999*9999/9999/9999/11", 909);
        value("9999*9999*9999>9999*9999*100", 1);
        value("4096*4096*4096/4096/4096/8", 512);
        value("(0-9999*9999*100)/(0-9999*9999)", 100);
        Doc.says(Doc.TERMS, "comparisons, and, or, not are 1 or 0 (what isn't 0 is as 1, both sides are worked out),");
        value("(5>3)*7+(3>5)", 7);
        value("(7 and 3)+10", 11);
        value("(7 and 0)+10", 10);
        value("(0-7 and 3)+10", 11);
        value("(7 or 0)+10", 11);
        value("(0 or 0-5)+10", 11);
        value("(7 or 9)+10", 11);
        value("(not 7)+10", 10);
        value("(not 0-7)+10", 10);
        value("(not 0)+10", 11);
        value("1 or 1/0", 13);
        value("1/0 or 1", 13);
        value("0 and 1/0", 13);
        value("1<2 or 2<1/0", 13);
        Doc.says(Doc.TERMS, "/ is cut towards 0;");
        value("7/2", 3);
        value("1/2", 0);
        value("9/3", 3);
        value("100+(0-7)/2", 97);
        value("100+7/(0-2)", 97);
        value("100+(0-1)/2", 100);
        value("(0-7)/(0-2)", 3);
    }

    private static void errors() {
        Doc.says(Doc.TERMS, "ERROR: / by 0, a value above 10 to the 12 or below 0 by more than that.");
        value("0/0", 13);
        value("0*(1/0)", 13);
        value("5/(3-3)", 13);
        value("5/week", 13);
        value("0/5", 0);
        value(TRILLION + "/(1000*1000*1000*10)", 100);
        value("0*(" + TRILLION + ")", 0);
        value("0*(" + TRILLION + "+0)", 0);
        value("0*(" + TRILLION + "+1)", 13);
        value("0*(" + TRILLION + "+1-1)", 13);
        value("0*(1+" + TRILLION + ")", 13);
        value("0*(0-" + TRILLION + ")", 0);
        value("0*(0-" + TRILLION + "-1)", 13);
        value("0*(0-1-" + TRILLION + ")", 13);
        value("0*(" + TRILLION + "-(0-1))", 13);
        value("0*(1000*1000*1000*1001)", 13);
        value("0*((0-1000)*1000*1000*1001)", 13);
        value("0*((0-1000)*1000*1000*1000)", 0);
        value("0*(1000*1000*1000*(0-1001))", 13);
        value("0*((0-1000*1000)*(0-1000*1001))", 13);
        value("0*((0-1000*1000)*(0-1000*1000))", 0);
        // Products that would wrap around a long to 0.
        value("0*((8192*8192*8192)*(8192*8192*8192))", 13);
        value("(8192*8192*8192)*(8192*8192)*0", 13);
        value("0*((4096*4096*4096)*(4096*4096*16))", 13);
        value("0*((4096*4096*4096)*(0-4096*4096*16))", 13);
        RansomHymn x = Check.told("tavern t 0 0;voice a 1 9 pawn t 7;verse v part 1;law crack 1/0;law due 5;baker p 9 1/0;baker q 9 6;");
        Check.same("an error of another E", x.due(0, 0, 0), 5);
        Check.same("an error of another E", x.bids(1, 0), 6);
        Check.same("its own", x.bids(0, 0), 0);
        RansomHymn y = Check.told("tavern t 0 0;voice a 1 9 pawn t 7;verse v part 1;law crack 5+2*3;law due 1+(2+(3+(4+1/0)));");
        for (int i = 0; i < 100; i++) {
            Check.same("an error, again and again", y.due(0, 0, 0), 7);
        }
        Check.same("what comes behind them", y.cracks(0), 11);
        Check.same("a baker's error", Check.told("verse v part 1;baker b 9 5/week;").bids(0, 0), 0);
        Check.same("a baker's error", Check.told("verse v part 1;baker b 9 " + TRILLION + "+1;").bids(0, 0), 0);
        Check.same("a crack's error", Check.told("voice a 1 1 boy;law crack " + TRILLION + "+1;").cracks(0), 0);
        Check.same("no error", Check.told("voice a 1 1 boy;law crack " + TRILLION + ";").cracks(0), 100);
    }

    private static void redeeming() {
        Doc.says(Doc.TERMS, "REDEEMED, by call: a VOICE for a PART that none has, once in each VERSE: the choir pays DUE into the TILL"
                + " of its TAVERN.");
        RansomHymn x = Check.told("tavern t 0 9999;tavern u 0 5;voice a 1 9 pawn u 3;voice b 1 9 pawn t 4;voice c 1 9;"
                + "verse v part 1 part 2;verse w part 1 part 2;verse z part 3;purse 15;");
        Check.same("a", x.redeem(0, 0, 0), 3);
        Check.same("its part has it", x.redeem(0, 0, 1), -1);
        Check.same("its part has it, by itself", x.redeem(0, 0, 0), -1);
        Check.same("once in each verse", x.redeem(0, 1, 0), -1);
        Check.same("in another verse", x.redeem(1, 1, 0), 3);
        Check.same("and another", x.redeem(2, 0, 0), 3);
        Check.same("b beside it", x.redeem(0, 1, 1), 4);
        Check.same("c, free", x.redeem(1, 0, 2), 0);
        Check.same("choir", x.count(6), 2);
        Check.same("u", x.tavern(1, 1), 14);
        Check.same("t, beyond what a text may tell", x.tavern(0, 1), 10003);
    }

    private static void singing() {
        Doc.says(Doc.TERMS, "SUNDAY: the PARTS that have a VOICE are sung: each note that SOUNDS is HEARD;");
        String text = "voice a 1 9;voice b 5 40;verse v part 1 5 0 part 9 10 0 40;verse w part 20 0 21;";
        RansomHymn x = Check.told(text);
        Check.same("no part has a voice", x.sunday(), 0);
        x.redeem(0, 0, 0);
        Check.same("one part", x.sunday(), 2);
        x.redeem(0, 1, 0);
        x.redeem(0, 0, 1);
        Check.same("two parts, some notes beyond", x.sunday(), 2);
        x.redeem(0, 1, 1);
        x.redeem(1, 0, 1);
        Check.same("one voice in two verses", x.sunday(), 5);
        x.redeem(1, 0, 0);
        Check.same("nothing that sounds", x.sunday(), 0);
        StringBuilder most = new StringBuilder("voice a 1 40;voice b 1 40;voice c 1 40;");
        for (char name = 'a'; name < 'e'; name++) {
            most.append("verse ").append(name).append(" part 1 2 3 4 5 6 7 8".repeat(3)).append(';');
        }
        RansomHymn y = Check.told(most.toString());
        for (int i = 0; i < 12; i++) {
            y.redeem(i / 3, i % 3, i % 3);
        }
        Check.same("all are redeemed", y.count(7), 12);
        Check.same("the most there can be", y.sunday(), 96);
    }

    private static void saving() {
        Doc.says(Doc.TERMS, "a VOICE that is PAWNED saves 1 crown for each rest of its PARTS: its CLAIM on its TAVERN is more by that"
                + " (the TILL isn't less).");
        RansomHymn x = Check.told("tavern t 0 7;tavern u 0 8;voice a 1 9 pawn u 0;voice b 1 9;voice c 1 9 boy pawn t 0;voice d 1 9 pawn t 0;"
                + "verse v part 0 0 5 part 0 part 1;verse w part 0 0 0 0 0 0 0 0;");
        x.redeem(0, 0, 0);
        x.redeem(0, 1, 1);
        x.redeem(0, 2, 2);
        x.redeem(1, 0, 0);
        x.sunday();
        int[] claims = {10, 0, 0, 0};
        for (int voice = 0; voice < 4; voice++) {
            Check.same("claim of " + voice, x.look(voice, 4), claims[voice]);
        }
        Check.same("on u", x.tavern(1, 2), 10);
        Check.same("on t", x.tavern(0, 2), 0);
        Check.same("the till of u", x.tavern(1, 1), 8);
        x.redeem(0, 1, 2);
        x.redeem(0, 2, 0);
        x.sunday();
        Check.same("none without rests", x.look(0, 4), 10);
        Check.same("a boy's", x.look(2, 4), 1);
        Check.same("till of t", x.tavern(0, 1), 7);
        x.redeem(1, 0, 0);
        x.undo();
        x.sunday();
        Check.same("none of what was undone", x.look(0, 4), 10);
    }

    private static void cracking() {
        Doc.says(Doc.TERMS, "Then nobody is REDEEMED, each BOY that isn't CRACKED, PAWNED or FREE: a number modulo 100:");
        String boys = "tavern t 0 0;voice a 1 9 boy;voice b 1 9;voice c 1 9 boy pawn t 0;voice d 1 9 pawn t 0;verse v part 1;";
        RansomHymn x = Check.told(boys + "law crack 100;");
        x.redeem(0, 0, 0);
        Check.same("sung ahead of it", x.sunday(), 1);
        Check.same("nobody is redeemed", x.count(7), 0);
        Check.same("nobody sings", x.sings(0, 0), -2);
        int[] want = {2, 0, 2, 0};
        for (int voice = 0; voice < 4; voice++) {
            Check.same("voice " + voice, x.look(voice, 5), want[voice]);
        }
        drawn(Check.told(boys + "law crack 7;seed 5;"), numbers(5, 800), 7);
        Doc.says(Doc.TERMS, "if that is below E of crack (0 .. 100; 0 without, with an ERROR), it is CRACKED; the next WEEK comes.");
        int first = numbers(3, 1)[0];
        Check.same("equal isn't below", crackedBy("seed 3;law crack " + first + ";"), 0);
        Check.same("below", crackedBy("seed 3;law crack " + (first + 1) + ";"), 1);
        Check.same("0", crackedBy("seed 0;law crack 0;"), 0);
        Check.same("seed 0 draws 0", crackedBy("seed 0;law crack 1;"), 1);
        Check.same("below 0 is 0", crackedBy("seed 0;law crack 0-1;"), 0);
        Check.same("above 100 is 100", crackedBy("seed 3;law crack 9999;"), 1);
        Check.same("without", crackedBy("seed 0;"), 0);
        Check.same("with an error", crackedBy("seed 0;law crack 1/0;"), 0);
        Check.same("E of the week that ends", crackedBy("law crack week*100;"), 0);
        RansomHymn y = Check.told("voice a 1 9 boy;law crack week*100;");
        y.sunday();
        Check.same("week 1", y.count(5), 1);
        Check.same("whole", y.count(10), 0);
        y.sunday();
        Check.same("week 2", y.count(5), 2);
        Check.same("cracked", y.count(10), 1);
        y.sunday();
        Check.same("it stays so", y.count(10), 1);
        Check.same("cracks as before", y.cracks(0), 100);
    }

    private static int crackedBy(String rest) {
        RansomHymn x = Check.told("voice a 1 9 boy;" + rest);
        x.sunday();
        return x.count(10);
    }

    /** Plays Sundays beside a row of numbers: one for each boy that is whole, by their numbers. */
    private static void drawn(RansomHymn x, int[] row, int bound) {
        int at = 0;
        int cracked = 0;
        for (int week = 0; week < 100; week++) {
            x.sunday();
            for (int voice = 0; voice < x.count(1); voice++) {
                boolean isBoy = x.look(voice, 5) != 0;
                boolean wasWhole = isBoy && (cracked >> voice & 1) == 0;
                if (wasWhole) {
                    cracked |= row[at] < bound ? 1 << voice : 0;
                    at++;
                }
                Check.same("voice " + voice + ", week " + week, x.look(voice, 5), !isBoy ? 0 : 1 + (cracked >> voice & 1));
            }
        }
    }

    private static void numbersDrawn() {
        Doc.says(Doc.TERMS, "Numbers are the last one (at first the seed) times 1103515245 and 12345, without what is above 31 bits, by"
                + " 65536.");
        // 7 * 1103515245 + 12345 = 7724619060, less 3 * 2 to the 31 is 1282168116, by 65536 is 19564.
        Check.same("the first number of seed 7", numbers(7, 1)[0], 64);
        Check.same("12345 by 65536", numbers(0, 1)[0], 0);
        for (int seed : new int[] {0, 1, 7, 65535, 99999}) {
            drawn(Check.told("voice a 1 9 boy;voice b 1 9 boy;voice c 1 9 boy;voice d 1 9 boy;voice e 1 9 boy;voice f 1 9 boy;law crack 4;"
                    + "seed " + seed + ";"), numbers(seed, 800), 4);
        }
    }
}
