import java.util.List;

/** What the Terms say of texts and their faults, sentence by sentence. */
final class TextSentences {
    private static final List<String> LANGUAGE = List.of("tavern", "voice", "boy", "pawn", "odds", "verse", "part", "baker",
            "purse", "seed", "law", "due", "crack", "or", "and", "not", "debt", "rate", "notes", "rests", "high", "week",
            "parts");
    private static final List<String> NAMES = List.of("debt", "rate", "notes", "rests", "high", "week", "parts");
    private static final String THREE_TAVERNS = "tavern a 1 1;tavern b 1 1;tavern c 1 1;";
    private static final String SIX_VOICES = "voice a 1 1;voice b 1 1;voice c 1 1;voice d 1 1;voice e 1 1;voice f 1 1;";
    private static final String FOUR_VERSES = "verse a part 1;verse b part 1;verse c part 1;verse d part 1;";
    private static final String THREE_BAKERS = "baker a 1 1;baker b 1 1;baker c 1 1;";
    /** A law of all 64 knots. */
    private static final String FULL_LAW = "law due not 1" + "+1".repeat(31) + ";";

    private TextSentences() {
    }

    static void play() {
        texts();
        lines();
        tokens();
        formulaRules();
        formulaTokens();
        taverns();
        voices();
        verses();
        bakersAndPurses();
        namesAndNumbers();
        firstFaults();
        oddTokens();
        tooMuch();
        tooManyKnots();
        toldAlready();
        notTold();
    }

    private static void lines(String text, int want) {
        Check.same("text of " + text, Check.tell(new RansomHymn(), text), want);
    }

    /** Due of a voice from 10 to 20, debt 13 at rate 11, for 12 0 25 14 0 0, the first one of two parts. */
    static int value(String formula) {
        return Check.told("tavern t 11 0;voice a 10 20 pawn t 13;verse v part 12 0 25 14 0 0 part 3;law due " + formula + ";")
                .due(0, 0, 0);
    }

    private static void value(String formula, int want) {
        Check.same(formula, value(formula), want);
    }

    private static void faultyFormula(String formula, int fault, int place) {
        for (String ahead : List.of("law due ", "law crack ", "baker b 9 ", "seed 1;law due ")) {
            Check.faulty(ahead + formula + ";", fault, ahead.length() + place);
        }
    }

    private static void texts() {
        Doc.says(Doc.TERMS, "A TEXT: { LINE ';' }.");
        lines("", 0);
        lines("purse 1;", 1);
        lines("purse 1;seed 1;", 2);
        lines(THREE_TAVERNS + SIX_VOICES + FOUR_VERSES + THREE_BAKERS + "purse 1;seed 1;law due 1;law crack 1;", 20);
        Check.faulty("purse 1", 1, 7);
        Check.faulty("purse 1;seed 1", 1, 14);
        Check.faulty("purse 1 seed 1;", 1, 8);
        Check.faulty(";", 1, 0);
        Check.faulty("purse 1;;", 1, 8);
        Check.faulty("purse 1,", 1, 7);
    }

    /** Each beginning of a LINE: a LINE itself where it is whole, otherwise more must come. */
    private static void beginnings(String ahead, String line, Integer... whole) {
        String[] words = line.split(" ");
        int linesAhead = (int) ahead.chars().filter(sign -> sign == ';').count();
        String text = ahead;
        for (int i = 1; i <= words.length; i++) {
            text += i == 1 ? words[0] : " " + words[i - 1];
            Check.faulty(text, 1, text.length());
            Check.faulty(text + " \n", 1, text.length() + 2);
            if (List.of(whole).contains(i)) {
                lines(text + ";", linesAhead + 1);
            } else {
                Check.faulty(text + ";", 1, text.length());
                Check.faulty(text + " tavern", 1, text.length() + 1);
            }
            Check.faulty(text + " ,", 1, text.length() + 1);
        }
        Check.faulty(text + " law", 1, text.length() + 1);
    }

    private static void lines() {
        Doc.says(Doc.TERMS, "LINE: tavern W N N |");
        beginnings("", "tavern t 1 2", 4);
        Check.faulty("tavern t 1 2 3;", 1, 13);
        Doc.says(Doc.TERMS, "voice W N N [ boy ] [ pawn W N ] [ odds N ] |");
        beginnings("tavern t 1 1;", "voice a 1 9 boy pawn t 5 odds 7", 4, 5, 8, 10);
        beginnings("tavern t 1 1;", "voice a 1 9 pawn t 5 odds 7", 4, 7, 9);
        beginnings("", "voice a 1 9 boy odds 7", 4, 5, 7);
        beginnings("", "voice a 1 9 odds 7", 4, 6);
        Check.faulty("voice a 1 9 boy boy;", 1, 16);
        Check.faulty("tavern t 1 1;voice a 1 9 pawn t 5 boy;", 1, 34);
        Check.faulty("tavern t 1 1;voice a 1 9 pawn t 5 pawn t 5;", 1, 34);
        Check.faulty("tavern t 1 1;voice a 1 9 odds 5 pawn t 5;", 1, 32);
        Check.faulty("voice a 1 9 odds 5 odds 5;", 1, 19);
        Check.faulty("voice a 1 9 odds 5 boy;", 1, 19);
        Check.faulty("voice a 1 9 5;", 1, 12);
        Doc.says(Doc.TERMS, "verse W part N { N } { part N { N } } |");
        beginnings("", "verse v part 1 2 part 3 4 part 5", 4, 5, 7, 8, 10);
        Check.faulty("verse v 1;", 1, 8);
        Check.faulty("verse part 1;", 1, 6);
        Check.faulty("verse v part part 1;", 1, 13);
        Check.faulty("verse v part 1 parts 2;", 1, 15);
        Doc.says(Doc.TERMS, "baker W N E | purse N | seed N | law KIND E.");
        beginnings("", "baker b 5 1 + week", 4, 6);
        beginnings("", "purse 5", 2);
        beginnings("", "seed 5", 2);
        beginnings("", "law due 1 + 2", 3, 5);
        beginnings("", "law crack ( 1 )", 5);
        Check.faulty("purse 5 5;", 1, 8);
        Check.faulty("seed a;", 1, 5);
        for (String word : LANGUAGE) {
            if (!List.of("tavern", "voice", "verse", "baker", "purse", "seed", "law").contains(word)) {
                Check.faulty(word + " 1;", 1, 0);
            }
        }
        Doc.says(Doc.TERMS, "KIND: due | crack.");
        lines("law due 1;law crack 1;", 2);
        lines("law crack 1;law due 1;", 2);
        for (String word : LANGUAGE) {
            if (!List.of("due", "crack").contains(word)) {
                Check.faulty("law " + word + " 1;", 1, 4);
            }
        }
        Check.faulty("law a 1;", 1, 4);
        Check.faulty("law 1;", 1, 4);
    }

    private static void tokens() {
        Doc.says(Doc.TERMS, "Words: small letters in a row;");
        lines("purse1;seed2;", 2);
        lines("tavern az1 2;", 1);
        Check.faulty("Purse 1;", 1, 0);
        Check.faulty("pursE 1;", 1, 0);
        Check.faulty("pur se 1;", 1, 0);
        Check.faulty("tavern tT 1 1;", 1, 8);
        Check.faulty("tavern T 1 1;", 1, 7);
        Check.faulty("tavern t_ 1 1;", 1, 8);
        Check.faulty("tavern ` 1 1;", 1, 7);
        Check.faulty("tavern { 1 1;", 1, 7);
        Check.faulty("tavern \u00e9 1 1;", 1, 7);
        Doc.says(Doc.TERMS, "W: one of 1 .. 6 letters, none of those of the language;");
        lines("tavern a 1 1;tavern abcdef 1 1;tavern zzzzzz 1 1;", 3);
        lines("tavern taver 1 1;voice duetto 1 1 pawn taver 1;verse orand part 1;baker notess 1 1;", 4);
        for (String kind : List.of("tavern", "voice", "verse", "baker")) {
            String rest = kind.equals("verse") ? " part 1;" : " 1 1;";
            for (String word : LANGUAGE) {
                Check.faulty(kind + " " + word + rest, 1, kind.length() + 1);
            }
            Check.faulty(kind + " abcdefg" + rest, 1, kind.length() + 1);
            Check.faulty(kind + " taverns" + rest, 1, kind.length() + 1);
            Check.faulty(kind + " 7" + rest, 1, kind.length() + 1);
            Check.faulty(kind + rest, 1, kind.length() + 1);
        }
        Check.faulty("voice a 1 1 pawn voice 1;", 1, 17);
        Check.faulty("voice a 1 1 pawn 5;", 1, 17);
        Check.faulty("tavern t 1 1;voice a 1 1 pawn 5 5;", 1, 30);
        Check.faulty("voice a 1 1 pawn abcdefg 1;", 1, 17);
        numbersAndBlanks();
    }

    private static void numbersAndBlanks() {
        Doc.says(Doc.TERMS, "N: digits.");
        Check.same("many zeros", Check.told("purse 0000000000000000000000000000000000000012;").count(6), 12);
        Check.same("zero", Check.told("purse 0;").count(6), 0);
        Check.same("all digits", Check.told("tavern t 1 2345;tavern u 6 7890;").tavern(1, 1), 7890);
        Check.faulty("purse 4294967297;", 2, 6);
        Check.faulty("purse 18446744073709551617;", 2, 6);
        Check.faulty("purse 340282366920938463463374607431768211457;", 2, 6);
        Check.faulty("purse +1;", 1, 6);
        Check.faulty("purse -1;", 1, 6);
        Check.faulty("purse 1.0;", 1, 7);
        Check.faulty("purse 0x1;", 1, 7);
        Check.faulty("purse 1 2;", 1, 8);
        Doc.says(Doc.TERMS, "Blanks 10, 32.");
        for (int sign = 0; sign < 256; sign++) {
            String text = "purse" + (char) sign + "5;";
            if (sign == 10 || sign == 32) {
                Check.same("a blank " + sign, Check.told(text).count(6), 5);
                lines((char) sign + "", 0);
            } else if (sign >= '0' && sign <= '9') {
                Check.same("a digit " + sign, Check.told(text).count(6), (sign - '0') * 10 + 5);
            } else {
                Check.faulty(text, 1, sign >= 'a' && sign <= 'z' ? 0 : 5);
                Check.faulty((char) sign + "", 1, 0);
            }
        }
        lines("\n \n purse \n\n 5 \n; \n", 1);
    }

    private static void formulaRules() {
        Doc.says(Doc.TERMS, "E: A { or A }.");
        value("0 or 0 or 5", 1);
        value("0 or 0", 0);
        value("1 or 0 and 0", 1);
        faultyFormula("or 1", 1, 0);
        faultyFormula("1 or or 1", 1, 5);
        faultyFormula("1 or", 1, 4);
        Doc.says(Doc.TERMS, "A: B { and B }.");
        value("1 and 2 and 3", 1);
        value("1 and 2 and 0", 0);
        value("0 and 0 or 1", 1);
        faultyFormula("and 1", 1, 0);
        faultyFormula("1 and and 1", 1, 6);
        faultyFormula("1 and", 1, 5);
        Doc.says(Doc.TERMS, "B: not B | C.");
        value("not 0", 1);
        value("not not 0", 0);
        value("not not not 0", 1);
        value("not 0 and 0", 0);
        value("not 1 or 1", 1);
        value("1 and not 0", 1);
        value("not 2<5", 0);
        value("not 5+1", 0);
        faultyFormula("not", 1, 3);
        faultyFormula("1+not 1", 1, 2);
        faultyFormula("1*not 1", 1, 2);
        faultyFormula("1<not 1", 1, 2);
        faultyFormula("1 not 1", 1, 2);
        faultyFormula("not and 1", 1, 4);
        Doc.says(Doc.TERMS, "C: S [ ( < | <= | = | <> | >= | > ) S ].");
        value("7", 7);
        comparisons();
        value("1+1<1+2", 1);
        value("1<2 and 2<3", 1);
        value("(3>2)>0", 1);
        faultyFormula("1<2<3", 1, 3);
        faultyFormula("1=1<>1", 1, 3);
        faultyFormula("1<=2+3>=1", 1, 6);
        faultyFormula("<1", 1, 0);
        faultyFormula("1>=", 1, 3);
    }

    private static void comparisons() {
        String[] signs = {"<", "<=", "=", "<>", ">=", ">"};
        int[][] want = {{1, 0, 0}, {1, 1, 0}, {0, 1, 0}, {1, 0, 1}, {0, 1, 1}, {0, 0, 1}};
        for (int i = 0; i < signs.length; i++) {
            value("4" + signs[i] + "5", want[i][0]);
            value("5" + signs[i] + "5", want[i][1]);
            value("6" + signs[i] + "5", want[i][2]);
        }
    }

    private static void formulaTokens() {
        Doc.says(Doc.TERMS, "S: T { ( + | - ) T }.");
        value("10-3-2", 5);
        value("10-3+2", 9);
        value("2+3*4", 14);
        value("20-12/4", 17);
        faultyFormula("+1", 1, 0);
        faultyFormula("-1", 1, 0);
        faultyFormula("1+", 1, 2);
        faultyFormula("1--1", 1, 2);
        Doc.says(Doc.TERMS, "T: P { ( * | / ) P }.");
        value("100/10/5", 2);
        value("100/10*5", 50);
        value("2*3*4", 24);
        faultyFormula("*1", 1, 0);
        faultyFormula("1/", 1, 2);
        faultyFormula("1*/2", 1, 2);
        Doc.says(Doc.TERMS, "P: N | NAME | '(' E ')';");
        value("7", 7);
        value("debt", 13);
        value("((7))", 7);
        value("(1 or 0)+1", 2);
        value("2*(3+4)*5", 70);
        value("10-(3-2)", 9);
        value("(not 0)+5", 6);
        faultyFormula("()", 1, 1);
        faultyFormula("(1", 1, 2);
        faultyFormula("1)", 1, 1);
        faultyFormula("(1))", 1, 3);
        faultyFormula("((1)", 1, 4);
        faultyFormula("(1 2)", 1, 3);
        faultyFormula("1(2)", 1, 1);
        faultyFormula("(1)2", 1, 3);
        faultyFormula("week week", 1, 5);
        faultyFormula("2 week", 1, 2);
        Doc.says(Doc.TERMS, "N of E 0 .. 9999.");
        value("0", 0);
        value("9999/11", 909);
        value("00009999/11", 909);
        faultyFormula("10000", 2, 0);
        faultyFormula("1+10000", 2, 2);
        faultyFormula("(4294967296)", 2, 1);
        namesAndSigns();
    }

    private static void namesAndSigns() {
        Doc.says(Doc.TERMS, "NAME: debt rate notes rests high week parts.");
        int[] want = {13, 11, 2, 3, 25, 0, 2};
        for (int i = 0; i < want.length; i++) {
            value(NAMES.get(i), want[i]);
        }
        for (String word : LANGUAGE) {
            if (!NAMES.contains(word) && !word.equals("not")) {
                faultyFormula(word, 1, 0);
            }
        }
        faultyFormula("a", 1, 0);
        faultyFormula("note", 1, 0);
        faultyFormula("restsss", 1, 0);
        Doc.says(Doc.TERMS, "A = (or > behind <) right behind < or > belongs to it.");
        value("5<=5", 1);
        value("5>=5", 1);
        value("5<>5", 0);
        value("5 <= 5", 1);
        faultyFormula("5< =5", 1, 3);
        faultyFormula("5>\n=5", 1, 3);
        faultyFormula("5< >5", 1, 3);
        faultyFormula("5=<5", 1, 2);
        faultyFormula("5=>5", 1, 2);
        faultyFormula("5><5", 1, 2);
        faultyFormula("5==5", 1, 2);
        faultyFormula("5<<5", 1, 2);
        faultyFormula("5>>5", 1, 2);
        faultyFormula("<=5", 1, 0);
        faultyFormula("5<=", 1, 3);
        for (String sign : List.of("<", ">", "=", "<=", "<>", ">=")) {
            Check.faulty("law due 1" + sign, 1, 9 + sign.length());
        }
    }

    private static void taverns() {
        Doc.says(Doc.TERMS, "TAVERNS, at most 3: RATE 0 .. 99, TILL 0 .. 9999.");
        RansomHymn x = Check.told("tavern a 0 0;tavern b 99 9999;tavern c 5 6;");
        Check.same("taverns", x.count(0), 3);
        Check.same("the least rate", x.tavern(0, 0), 0);
        Check.same("the least till", x.tavern(0, 1), 0);
        Check.same("the greatest rate", x.tavern(1, 0), 99);
        Check.same("the greatest till", x.tavern(1, 1), 9999);
        Check.faulty(THREE_TAVERNS + "tavern d 1 1;", 2, THREE_TAVERNS.length());
        Check.faulty("tavern a 100 0;", 2, 9);
        Check.faulty("tavern a 99 10000;", 2, 12);
    }

    private static void voices() {
        Doc.says(Doc.TERMS, "VOICES, at most 6: from a pitch to a pitch 1 .. 40 (not below the first);");
        Check.same("six", Check.told(SIX_VOICES).count(1), 6);
        Check.faulty(SIX_VOICES + "voice g 1 1;", 2, SIX_VOICES.length());
        RansomHymn x = Check.told("tavern t 0 0;voice a 1 1;voice b 40 40 boy;voice c 1 40 pawn t 0;voice d 7 8 boy pawn t 99;");
        int[][] reach = {{1, 1}, {40, 40}, {1, 40}, {7, 8}};
        for (int voice = 0; voice < 4; voice++) {
            Check.same("from", x.look(voice, 0), reach[voice][0]);
            Check.same("to", x.look(voice, 1), reach[voice][1]);
        }
        Check.faulty("voice a 0 1;", 2, 8);
        Check.faulty("voice a 41 41;", 2, 8);
        Check.faulty("voice a 1 0;", 2, 10);
        Check.faulty("voice a 1 41;", 2, 10);
        Check.faulty("voice a 8 7;", 2, 10);
        Doc.says(Doc.TERMS, "a BOY or not; PAWNED at a TAVERN for a DEBT 0 .. 99, or FREE;");
        int[][] want = {{-1, 0, 0}, {-1, 0, 1}, {0, 0, 0}, {0, 99, 1}};
        for (int voice = 0; voice < 4; voice++) {
            Check.same("tavern", x.look(voice, 2), want[voice][0]);
            Check.same("debt", x.look(voice, 3), want[voice][1]);
            Check.same("boy", x.look(voice, 5), want[voice][2]);
        }
        Check.faulty("tavern t 0 0;voice a 1 1 pawn t 100;", 2, 32);
        Doc.says(Doc.TERMS, "odds 1 .. 99 (1 without).");
        RansomHymn y = Check.told("voice a 1 1 odds 1;voice b 1 1 odds 99;voice c 1 1;");
        Check.same("1", y.odds(0, 0) * 1000 + y.odds(0, 1), 1101);
        Check.same("99", y.odds(1, 0) * 1000 + y.odds(1, 1), 99101);
        Check.same("without", y.odds(2, 0) * 1000 + y.odds(2, 1), 1101);
        Check.faulty("voice a 1 1 odds 0;", 2, 17);
        Check.faulty("voice a 1 1 odds 100;", 2, 17);
    }

    private static void verses() {
        Doc.says(Doc.TERMS, "VERSES, at most 4, of 1 .. 3 PARTS of 1 .. 8 bars each: a pitch 1 .. 40 or 0, a rest.");
        Check.same("four", Check.told(FOUR_VERSES).count(2), 4);
        Check.faulty(FOUR_VERSES + "verse e part 1;", 2, FOUR_VERSES.length());
        RansomHymn x = Check.told("verse v part 0;verse w part 1 2 3 4 5 6 7 40 part 0 0 0 0 0 0 0 0 part 1;");
        Check.same("one part", x.verse(0, 0), 1);
        Check.same("one bar", x.verse(0, 1), 1);
        Check.same("a rest", x.pitch(0, 0, 0), 0);
        Check.same("three parts", x.verse(1, 0), 3);
        Check.same("eight bars", x.verse(1, 1), 8);
        Check.same("eight rests", x.verse(1, 2), 8);
        Check.same("the least pitch", x.pitch(1, 0, 0), 1);
        Check.same("the greatest pitch", x.pitch(1, 0, 7), 40);
        Check.faulty("verse v;", 1, 7);
        Check.faulty("verse v part;", 1, 12);
        Check.faulty("verse v part 41;", 2, 13);
        Check.faulty("verse v part 1 41;", 2, 15);
        Check.faulty("verse v part 1 part 1 part 1 part 1;", 2, 29);
        Check.faulty("verse v part 1 2 3 4 5 6 7 8 9;", 2, 29);
    }

    private static void bakersAndPurses() {
        Doc.says(Doc.TERMS, "BAKERS, at most 3: a purse 0 .. 999, what each bids.");
        RansomHymn x = Check.told("verse v part 1 2 0;baker a 0 5;baker b 999 9999;baker c 9 notes*3;");
        Check.same("bakers", x.count(3), 3);
        Check.same("an empty purse", x.bids(0, 0), 0);
        Check.same("the greatest purse", x.bids(1, 0), 999);
        Check.same("what it bids", x.bids(2, 0), 6);
        Check.faulty(THREE_BAKERS + "baker d 1 1;", 2, THREE_BAKERS.length());
        Check.faulty("baker a 1000 5;", 2, 8);
        Doc.says(Doc.TERMS, "purse: the choir's 0 .. 999 (0 without).");
        Check.same("0", Check.told("purse 0;").count(6), 0);
        Check.same("999", Check.told("purse 999;").count(6), 999);
        Check.same("without", Check.told("seed 5;").count(6), 0);
        Check.faulty("purse 1000;", 2, 6);
        RansomHymn y = Check.told("purse 7;");
        Check.tell(y, "seed 5;");
        Check.same("another text without", y.count(6), 0);
        Doc.says(Doc.TERMS, "seed: 0 .. 99999 (0).");
        Check.faulty("seed 100000;", 2, 5);
        Check.same("without is as 0", crackedAt(""), crackedAt("seed 0;"));
        Check.same("0", crackedAt("seed 0;"), ChoirSentences.firstBelow(0, 3));
        Check.same("7", crackedAt("seed 7;"), ChoirSentences.firstBelow(7, 3));
        Check.same("99999", crackedAt("seed 99999;"), ChoirSentences.firstBelow(99999, 3));
        Check.isTrue("seeds are unlike", ChoirSentences.firstBelow(7, 3) != ChoirSentences.firstBelow(99999, 3));
        RansomHymn z = Check.told("seed 99999;");
        Check.tell(z, "voice a 1 9 boy;law crack 3;");
        Check.same("another text without", sundaysUntilCracked(z), ChoirSentences.firstBelow(0, 3));
    }

    private static int crackedAt(String seed) {
        return sundaysUntilCracked(Check.told("voice a 1 9 boy;law crack 3;" + seed));
    }

    private static int sundaysUntilCracked(RansomHymn x) {
        for (int i = 0; i < 400; i++) {
            x.sunday();
            if (x.count(10) == 1) {
                return i;
            }
        }
        return -1;
    }

    private static void namesAndNumbers() {
        Doc.says(Doc.TERMS, "All numbered as they come;");
        RansomHymn x = Check.told("baker b 9 1;voice b 2 2;tavern z 1 1;verse q part 5;voice a 1 1 pawn z 3;tavern y 2 2;"
                + "verse p part 6;baker a 9 2;");
        Check.same("tavern z", x.tavern(0, 0), 1);
        Check.same("tavern y", x.tavern(1, 0), 2);
        Check.same("voice b", x.look(0, 0), 2);
        Check.same("voice a", x.look(1, 0), 1);
        Check.same("verse q", x.pitch(0, 0, 0), 5);
        Check.same("verse p", x.pitch(1, 0, 0), 6);
        Check.same("baker b", x.bids(0, 0), 1);
        Check.same("baker a", x.bids(1, 0), 2);
        Doc.says(Doc.TERMS, "TAVERNS, VOICES, VERSES, BAKERS have names of their kind.");
        RansomHymn y = Check.told("tavern o 1 1;tavern n 1 1;voice n 1 1 pawn n 3;verse n part 1;baker n 1 1;");
        for (int kind = 0; kind < 4; kind++) {
            Check.same("n of kind " + kind, y.named(kind, Check.letters("n")), kind == 0 ? 1 : 0);
        }
        Check.same("pawn n is the tavern", y.look(0, 2), 1);
    }

    private static void firstFaults() {
        Doc.says(Doc.TERMS, "FAULTS, the first along the text (of one place the least), with its place:");
        Check.faulty("tavern t 100 10000;", 2, 9);
        Check.faulty("purse 1000;purse 1;", 2, 6);
        Check.faulty("purse 1;purse 1000;", 3, 8);
        Check.faulty("purse 1;purse;", 3, 8);
        Check.faulty("voice a 1 9 pawn t 100;", 4, 17);
        Check.faulty("voice a 1 41 pawn t 1;", 2, 10);
        Check.faulty("tavern t 1 1;tavern t 100 1;", 3, 20);
        Check.faulty(THREE_TAVERNS + "tavern a 1 1;", 2, THREE_TAVERNS.length());
        Check.faulty("law due 1;law due ;", 3, 14);
        Check.faulty("law due 10000 ?", 2, 8);
        Check.faulty("? law due 10000", 1, 0);
        Check.faulty(" \n purse \n 1000 ;", 2, 11);
        Check.faulty("purse 1;\n\n\n\nseed 100000;", 2, 17);
        // Places where two would be: what can't stand there is less than too much.
        Check.faulty("law due 1 10000;", 1, 10);
        Check.faulty("purse 5 10000;", 1, 8);
        Check.faulty("law due ((((((((1(;", 1, 17);
        Check.faulty(FULL_LAW + "baker b 1 *;", 1, FULL_LAW.length() + 10);
        String compared = "law due not 1<1" + "+1".repeat(30);
        Check.same("64 knots", Check.told(compared + ";").count(4), 64);
        Check.faulty(compared + "=1;", 1, compared.length());
        Check.faulty(compared + "+1;", 2, compared.length());
        Check.faulty(compared + " 1;", 1, compared.length() + 1);
        Check.faulty("voice a 1 9 pawn boy 1;", 1, 17);
    }

    private static void oddTokens() {
        Doc.says(Doc.TERMS, "1 a TOKEN that is none (a word of more than 6 letters, too) or can't stand there (the length, if more"
                + " must come).");
        for (int sign = 33; sign < 127; sign++) {
            if (";()<=>+-*/".indexOf(sign) < 0 && !Character.isLetterOrDigit(sign)) {
                Check.faulty("law due 1+" + (char) sign + "1;", 1, 10);
                Check.faulty("law due 1 " + (char) sign + "1;", 1, 10);
                Check.faulty("purse 1" + (char) sign + ";", 1, 7);
            }
        }
        Check.faulty("purse 1;abcdefg", 1, 8);
        Check.faulty("purse 1;taverns t 1 1;", 1, 8);
        Check.faulty("purse abcdefg;", 1, 6);
        Check.faulty("verse v part 1 abcdefghijklmnopqrstuvwxyz;", 1, 15);
        Check.faulty("purse purse;", 1, 6);
        Check.faulty("purse (1);", 1, 6);
        Check.faulty("tavern t 1 boy;", 1, 11);
        Check.faulty("purse", 1, 5);
        Check.faulty("purse \n ", 1, 8);
        RansomHymn x = new RansomHymn();
        Check.feed(x, "purse 123;");
        Check.same("only the first eight bytes", x.text(8), -1);
        Check.same("fault", x.fault(0), 1);
        Check.same("the length", x.fault(1), 8);
        String long800 = "purse 1" + " ".repeat(793);
        Check.faulty(long800, 1, 800);
    }

    private static void tooMuch() {
        Doc.says(Doc.TERMS, "2 too much (at it): a number beyond what is said,");
        Check.faulty("tavern t 1 10000;", 2, 11);
        Check.faulty("tavern t 999999999999999999999999 1;", 2, 9);
        Check.faulty("voice a 1 1 odds 0;", 2, 17);
        Check.faulty("seed 100000;", 2, 5);
        Check.faulty("seed 2147483648;", 2, 5);
        Doc.says(Doc.TERMS, "a fourth tavern and so on (at the word of the LINE),");
        Check.faulty(THREE_TAVERNS + "purse 1; tavern", 2, THREE_TAVERNS.length() + 9);
        Check.faulty(SIX_VOICES + "\nvoice 5", 2, SIX_VOICES.length() + 1);
        Check.faulty(FOUR_VERSES + "verse;", 2, FOUR_VERSES.length());
        Check.faulty(THREE_BAKERS + "baker a 1 1;", 2, THREE_BAKERS.length());
        Doc.says(Doc.TERMS, "a fourth part (at part), a ninth bar (at it),");
        Check.faulty("verse v part 1 part 2 part 3 part", 2, 29);
        Check.faulty("verse v part 1 part 2 part 3 part x;", 2, 29);
        Check.faulty("verse v part 0 0 0 0 0 0 0 0 0;", 2, 29);
        Check.faulty("verse v part 1 part 0 0 0 0 0 0 0 0 99;", 2, 36);
        lines("verse v part 0 0 0 0 0 0 0 0 part 0 0 0 0 0 0 0 0 part 0 0 0 0 0 0 0 0;verse w part 1 part 1 part 1;", 2);
        Doc.says(Doc.TERMS, "a ninth '(' open,");
        String eight = "(".repeat(8);
        value(eight + "7" + ")".repeat(8), 7);
        value(eight + "1)+(2" + ")".repeat(8) + "+" + eight + "3" + ")".repeat(8), 6);
        value("(1)+(1)+(1)+(1)+(1)+(1)+(1)+(1)+(1)+(1)", 10);
        faultyFormula(eight + "(1" + ")".repeat(9), 2, 8);
        faultyFormula(eight + "1)+((2" + ")".repeat(9), 2, 12);
        faultyFormula(eight + "1+(", 2, 10);
        Check.same("each E has eight", Check.told("law due " + eight + "7" + ")".repeat(8) + ";law crack " + eight + "7"
                + ")".repeat(8) + ";").count(4), 2);
    }

    private static void tooManyKnots() {
        Doc.says(Doc.TERMS, "a 65th KNOT of all E (N, NAMES, signs, not, and, or: one each).");
        Check.same("a law of all", Check.told(FULL_LAW).count(4), 64);
        String most = "law due 1" + "+1".repeat(30) + ";";
        int at = most.length();
        knots(most + "law crack 1;", 62);
        knots(most + "law crack ((week));", 62);
        knots(most + "law crack not(1);", 63);
        knots(most + "baker b 1 1*1;", 64);
        knots(most + "baker b 1 not not 1;", 64);
        for (String sign : List.of("+", "-", "*", "/", "<", "<=", "=", "<>", ">=", ">", " and ", " or ")) {
            knots("law due 7" + sign + "7;", 3);
            knots(most + "baker b 1 1" + sign + "1;", 64);
            Check.faulty(most + "baker b 1 not 1" + sign + "1;", 2, at + 15 + sign.length());
            Check.faulty(most + "baker b 1 not not 1" + sign + "1;", 2, at + 19 + (sign.startsWith(" ") ? 1 : 0));
        }
        for (String name : NAMES) {
            knots("law due " + name + ";", 1);
            knots(most + "baker b 1 1+" + name + ";", 64);
            Check.faulty(most + "baker b 1 not not not " + name + ";", 2, at + 22);
        }
        Check.faulty(most + "baker b 1 not not not 5;", 2, at + 22);
        Check.faulty(most + "baker b 1 not not not not 5;", 2, at + 22);
        Check.faulty(most + "baker b 1 1;law crack 1;baker c 1 1;baker d 1 1;", 2, at + 46);
        // As many as can wait for what they work on: 63 of them and all eight brackets.
        knots("law due " + "not ".repeat(63) + "5;", 64);
        value("not ".repeat(63) + "5", 0);
        value("not ".repeat(63) + "0", 1);
        value("not (".repeat(8) + "not ".repeat(55) + "5" + ")".repeat(8), 0);
        value("not (".repeat(8) + "not ".repeat(53) + "1-1" + ")".repeat(8), 1);
        Check.faulty("law due " + "not ".repeat(64) + "5;", 2, 8 + 64 * 4);
        Check.faulty(FULL_LAW + "law crack 1;", 2, FULL_LAW.length() + 10);
        Check.faulty("law due 1" + "+1".repeat(31) + "*1;", 2, 8 + 64);
        RansomHymn x = Check.told(most);
        Check.tell(x, most + "law crack 1+");
        Check.tell(x, most + "baker b 1 1+1;");
        Check.same("a text with a fault leaves none behind", x.count(4), 64);
    }

    private static void knots(String text, int want) {
        Check.same("knots of " + text, Check.told(text).count(4), want);
    }

    private static void toldAlready() {
        Doc.says(Doc.TERMS, "3 told already: a name of its kind (at W),");
        Check.faulty("tavern t 1 1;tavern t 1 1;", 3, 20);
        Check.faulty("tavern t 1 1;tavern u 1 1;tavern t 1 1;", 3, 33);
        Check.faulty("voice abcdef 1 1;voice abcdef 1 1;", 3, 23);
        Check.faulty("verse t part 1;verse t part 1;", 3, 21);
        Check.faulty("baker t 1 1;baker  t;", 3, 19);
        lines("tavern t 1 1;tavern ta 1 1;tavern at 1 1;", 3);
        lines("voice t 1 1;verse t part 1;baker t 1 1;tavern t 1 1;", 4);
        Doc.says(Doc.TERMS, "purse, seed (at the word),");
        Check.faulty("purse 0;purse 0;", 3, 8);
        Check.faulty("seed 0;purse 1;seed 0;", 3, 15);
        Check.faulty("purse 5;seed 5;purse", 3, 15);
        RansomHymn x = Check.told("purse 1;seed 1;law due 1;tavern t 1 1;");
        Check.same("told in a text ahead", Check.tell(x, "purse 2;seed 2;law due 2;tavern t 2 2;"), 4);
        Doc.says(Doc.TERMS, "a law of its KIND (at KIND).");
        Check.faulty("law due 1;law due 2;", 3, 14);
        Check.faulty("law crack 0;law due 0;law  crack", 3, 27);
        lines("law crack 0;law due 0;", 2);
    }

    private static void notTold() {
        Doc.says(Doc.TERMS, "4 a TAVERN that isn't told ahead (at W).");
        Check.faulty("voice a 1 1 pawn t 1;", 4, 17);
        Check.faulty("voice a 1 1 pawn t 1;tavern t 1 1;", 4, 17);
        Check.faulty("tavern t 1 1;voice u 1 1;verse u part 1;baker u 1 1;voice a 1 1 pawn u 1;", 4, 69);
        Check.faulty("voice a 1 1 pawn a 1;", 4, 17);
        Check.faulty("tavern t 1 1;voice a 1 1 pawn tt;", 4, 30);
        lines("tavern t 1 1;tavern u 1 1;voice a 1 1 pawn u 1;voice b 1 1 pawn t 1;", 4);
        RansomHymn x = Check.told("tavern t 1 1;");
        Check.same("told in a text ahead", Check.tell(x, "voice a 1 1 pawn t 1;"), -1);
    }
}
