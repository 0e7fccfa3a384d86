/** Promises 1 to 5, sentence by sentence. */
final class TapeSentences {
    private static final int BLANKS = 0x20202020;

    private TapeSentences() {
    }

    static void play() {
        newObject();
        feeding();
        telling();
        refusedTexts();
        faults();
        names();
    }

    private static void newObject() {
        Doc.says(1, "A TEXT without LINES;");
        RansomHymn x = new RansomHymn();
        RansomHymn empty = new RansomHymn();
        Check.same("text(0)", empty.text(0), 0);
        State.same("as one that was told no line", x, empty);
        for (int what = 0; what <= 11; what++) {
            Check.same("count(" + what + ")", x.count(what), 0);
        }
        Check.same("no voice", Check.thrownByLook(x, 0, 0), 1);
        int[] refused = {x.tavern(0, 0), x.verse(0, 0), x.pitch(0, 0, 0), x.due(0, 0, 0), x.sounds(0, 0, 0), x.bids(0, 0),
            x.cracks(0), x.redeem(0, 0, 0), x.undo(), x.sings(0, 0), x.bar(0, 0), x.chosen(0, 0, 0), x.sold(0, 0, 0),
            x.sold(1, 0, 0), x.easter(1), x.strike(0), x.odds(0, 0), x.round(0, 0, 1, 1), x.entry(0, 0, 1, 1, 0),
            x.run(0, -1), x.pay(0), x.back(), x.named(0, 0), (int) x.whole(0, 0, 0)};
        for (int i = 0; i < refused.length; i++) {
            Check.same("refused, call " + i, refused[i], -1);
        }
        Check.same("best", x.best(0, 0), 0);
        Check.same("easter of none", x.easter(0), 0);
        Check.same("thieves", x.thieves(), 0);
        Check.same("gang", x.gang(), 0);
        x.hum(1);
        Check.same("a gang of nobody", x.gang(), -2);
        Check.same("sunday", x.sunday(), 0);
        Check.same("keep", x.keep(), 1);
        Doc.says(1, "an empty TAPE.");
        RansomHymn y = new RansomHymn();
        Check.same("text(1)", y.text(1), -2);
        Check.same("the first twenty", y.feed(0, 0, 0, 0, 0), 20);
    }

    private static void feeding() {
        Doc.says(2, "Twenty bytes come behind the TAPE, four of each number, the highest first: how many it has;");
        RansomHymn x = new RansomHymn();
        Check.same("feed", x.feed(0x74617665, 0x726e2061, 0x62632031, 0x20323334, 0x3b766f69), 20);
        Check.same("feed", x.feed(0x63652078, 0x20312032, 0x3b736565, 0x6420373b, BLANKS), 40);
        Check.same("tavern abc 1 234;voice x 1 2;seed 7;", x.text(40), 3);
        Check.same("abc", x.named(0, Check.letters("abc")), 0);
        Check.same("till", x.tavern(0, 1), 234);
        for (int at = 0; at < 20; at++) {
            int[] five = {BLANKS, BLANKS, BLANKS, BLANKS, BLANKS};
            five[at / 4] = BLANKS & ~(255 << 24 - at % 4 * 8) | 0xf0 << 24 - at % 4 * 8;
            RansomHymn y = new RansomHymn();
            y.feed(BLANKS, BLANKS, BLANKS, BLANKS, BLANKS);
            y.feed(five[0], five[1], five[2], five[3], five[4]);
            Check.same("a byte 240 at " + (20 + at), y.text(40), -1);
            Check.same("its place", y.fault(1), 20 + at);
        }
        Doc.says(2, "NONE, and none come, if it would have more than 800.");
        RansomHymn z = new RansomHymn();
        for (int i = 1; i <= 40; i++) {
            Check.same("feed " + i, z.feed(BLANKS, BLANKS, BLANKS, BLANKS, BLANKS), 20 * i);
        }
        Check.same("the 41st", z.feed(0x3b3b3b3b, 0x3b3b3b3b, 0x3b3b3b3b, 0x3b3b3b3b, 0x3b3b3b3b), -1);
        Check.same("the 42nd", z.feed(-1, -1, -1, -1, -1), -1);
        Check.same("there are not so many", z.text(801), -2);
        Check.same("800 blanks", z.text(800), 0);
        Check.same("from its beginning again", z.feed(BLANKS, BLANKS, BLANKS, BLANKS, BLANKS), 20);
        RansomHymn last = new RansomHymn();
        Check.same("a text of 800 bytes", Check.tell(last, " ".repeat(791) + "purse 12;"), 1);
        Check.same("its last bytes", last.count(6), 12);
    }

    private static void telling() {
        Doc.says(3, "The TAPE's first n bytes (it is empty then) are the TEXT");
        RansomHymn x = new RansomHymn();
        Check.feed(x, "purse 7; purse 8;");
        Check.same("the first eight", x.text(8), 1);
        Check.same("purse", x.count(6), 7);
        Check.same("the others are gone", x.text(1), -2);
        Check.same("empty", x.feed(0, 0, 0, 0, 0), 20);
        Check.same("none of twenty", x.text(0), 0);
        Check.same("a text without lines", x.count(6), 0);
        Check.same("empty", x.feed(0, 0, 0, 0, 0), 20);
        Check.same("a fault", x.text(20), -1);
        Check.same("empty, with a fault too", x.feed(0, 0, 0, 0, 0), 20);
        RansomHymn cut = new RansomHymn();
        Check.feed(cut, "purse 123;");
        Check.same("no byte behind n is looked at", cut.text(7), -1);
        Check.same("place", cut.fault(1), 7);
        Check.feed(cut, "law due week;");
        Check.same("the first letters of a word", cut.text(11), -1);
        Check.same("place", cut.fault(1), 8);
        Check.feed(cut, "law due 1<=2;");
        Check.same("the first of two signs", cut.text(10), -1);
        Check.same("place", cut.fault(1), 10);
        Check.feed(cut, "purse 12;");
        Check.same("the first digit", cut.text(7), -1);
        Check.same("place", cut.fault(1), 7);
        Check.same("letters up to the last byte of a full tape", Check.tell(cut, " ".repeat(794) + "tavern"), -1);
        Check.same("place", cut.fault(1), 800);
        Check.same("digits up to the last byte of a full tape", Check.tell(cut, " ".repeat(793) + "purse 1"), -1);
        Check.same("place", cut.fault(1), 800);
        Check.same("a sign as the last byte of a full tape", Check.tell(cut, " ".repeat(790) + "law due 1<"), -1);
        Check.same("place", cut.fault(1), 800);
        Doc.says(3, "(WEEK 0, nobody REDEEMED, no CLAIMS, nothing HUMMED, all KNOWN, no IMAGE then)");
        RansomHymn y = State.full();
        State.stir(y);
        y.known(1);
        y.pay(0);
        Check.same("there is an image", y.back(), 1);
        y.redeem(0, 2, 2);
        Check.isTrue("a claim", y.tavern(0, 2) > 0);
        y.known(1);
        Check.same("the same text again", Check.tell(y, State.FULL), 14);
        Check.same("no image", y.back(), -1);
        RansomHymn fresh = State.full();
        Check.same("week", y.count(5), 0);
        Check.same("nobody is redeemed", y.count(7), 0);
        Check.same("nothing can be undone", y.undo(), -1);
        Check.same("no claims", y.tavern(0, 2) + y.tavern(1, 2), 0);
        Check.same("nothing hummed", y.count(8), 0);
        y.hum(5);
        fresh.hum(5);
        y.hum(6);
        fresh.hum(6);
        Check.same("all are known", y.count(9), 2);
        State.sameFromNowOn("as a new object that was told it", y, fresh);
        textsAhead();
        Doc.says(3, ": how many LINES;");
        Check.same("none", new RansomHymn().text(0), 0);
        Check.same("one", Check.tell(new RansomHymn(), "seed 1;"), 1);
        Check.same("fourteen", Check.tell(new RansomHymn(), State.FULL), 14);
    }

    /** Nothing of a text ahead, or of one with a fault, is in the text that is told then. */
    private static void textsAhead() {
        RansomHymn x = State.full();
        x.redeem(0, 0, 0);
        State.of(x);
        String small = "tavern t 1 2;voice a 2 3;voice b 1 9 pawn t 4;verse v part 5 6;baker p 9 week;";
        Check.same("a small text", Check.tell(x, small), 5);
        State.sameFromNowOn("as a new object that was told it", x, Check.told(small));
        RansomHymn y = Check.told("voice a 1 9 boy;");
        Check.same("a man", Check.tell(y, "voice a 1 9;"), 1);
        Check.same("no boy", y.look(0, 5), 0);
        RansomHymn z = new RansomHymn();
        for (String text : new String[] {"law due ((1", "law due (((1;", "law crack not not (", "voice a 1 9 boy pawn", "purse 7",
            "seed 5;?", State.FULL + "?", "tavern a 1 1;tavern b 1 1;tavern c 1 1;", "baker b 9 1+1+1+1+1 1"}) {
            Check.tell(z, text);
            Check.same("told behind " + text, Check.tell(z, small + "law due (1)+2;law crack 3;purse 4;"), 8);
            Check.same("knots", z.count(4), 5);
            State.sameFromNowOn("told behind " + text, z, Check.told(small + "law due (1)+2;law crack 3;purse 4;"));
            Check.tell(z, text);
            Check.same("a bracket too many", Check.tell(z, "law due 1);"), -1);
            Check.same("its place", z.fault(1), 9);
        }
        for (int i = 0; i < 20; i++) {
            Check.same("eight are open", Check.tell(z, "law due 1+(1*((((((("), -1);
        }
        Check.same("told behind them", Check.tell(z, small + "law due 100-2*3;"), 6);
        Check.same("100 less 6", z.due(0, 0, 1), 94);
    }

    private static void refusedTexts() {
        Doc.says(3, "NONE with a FAULT, all stays;");
        String[] faulty = {";", "purse", "purse 1000;", "tavern t 1 1;tavern t 1 1;", "voice a 1 1 pawn x 1;",
            "tavern x 9 9;voice y 1 1 boy;verse z part 1;baker b 999 1;purse 1;seed 1;law due 1;law crack 100;?"};
        for (String text : faulty) {
            State.asks("text of " + text, x -> Check.tell(x, text), -1);
        }
        Doc.says(3, "-2, and the TAPE stays: there are not so many, n is below 0.");
        int[] wrong = {41, 42, 800, 801, Integer.MAX_VALUE, -1, -2, Integer.MIN_VALUE};
        for (int n : wrong) {
            State.asks("text(" + n + ")", x -> {
                Check.feed(x, "purse 9;seed 8; ?????????????????????");
                long answer = x.text(n);
                Check.same("the tape is there", x.text(15), 2);
                Check.same("purse", x.count(6), 9);
                Check.tell(x, State.FULL);
                State.stir(x);
                return answer;
            }, -2);
        }
        State.asks("text(1) of an empty tape", x -> x.text(1), -2);
        State.asks("text(-1) of an empty tape", x -> x.text(-1), -2);
        RansomHymn y = new RansomHymn();
        Check.feed(y, "seed 1;");
        Check.same("text(21)", y.text(21), -2);
        Check.same("behind it", y.feed(BLANKS, BLANKS, BLANKS, BLANKS, BLANKS), 40);
        Check.same("text(40)", y.text(40), 1);
    }

    private static void faults() {
        Doc.says(4, "Of the latest text() that was not -2, what 0: its FAULT (0), 1: its place (NONE without).");
        RansomHymn x = new RansomHymn();
        faultIs(x, 0, -1);
        x.text(1);
        faultIs(x, 0, -1);
        Check.tell(x, " purse 1000;");
        faultIs(x, 2, 7);
        x.text(1);
        x.text(-1);
        faultIs(x, 2, 7);
        Check.tell(x, "purse 999;");
        faultIs(x, 0, -1);
        Check.tell(x, "?");
        faultIs(x, 1, 0);
        Check.tell(x, "voice a 1 1 pawn t 1;");
        faultIs(x, 4, 17);
        Check.tell(x, "seed 1;seed 1;");
        faultIs(x, 3, 7);
        x.text(0);
        faultIs(x, 0, -1);
        Check.tell(x, "?");
        x.keep();
        x.sunday();
        x.back();
        faultIs(x, 1, 0);
        Doc.says(4, "NONE for another what.");
        for (int what : new int[] {2, 3, -1, -2, Integer.MAX_VALUE, Integer.MIN_VALUE}) {
            Check.same("fault(" + what + ")", x.fault(what), -1);
        }
    }

    private static void faultIs(RansomHymn x, int fault, int place) {
        Check.same("fault(0)", x.fault(0), fault);
        Check.same("fault(1)", x.fault(1), place);
    }

    private static void names() {
        Doc.says(5, "The number of a TAVERN (what 0), VOICE (1), VERSE (2), BAKER (3) by its letters, 5 bits each (a is 1; the first"
                + " one highest of six, 0 behind the last one);");
        RansomHymn x = Check.told("tavern a 0 0;tavern abcdef 0 0;tavern b 0 0;voice a 1 1;voice z 1 1;voice zzzzzz 1 1;"
                + "verse aa part 0;verse a part 0;baker zyxwvu 0 0;baker ab 0 0;");
        Check.same("tavern a", x.named(0, 1 << 25), 0);
        Check.same("tavern abcdef", x.named(0, 1 << 25 | 2 << 20 | 3 << 15 | 4 << 10 | 5 << 5 | 6), 1);
        Check.same("tavern b", x.named(0, 2 << 25), 2);
        Check.same("voice a", x.named(1, 1 << 25), 0);
        Check.same("voice z", x.named(1, 26 << 25), 1);
        Check.same("voice zzzzzz", x.named(1, Check.letters("zzzzzz")), 2);
        Check.same("verse aa", x.named(2, 1 << 25 | 1 << 20), 0);
        Check.same("verse a", x.named(2, 1 << 25), 1);
        Check.same("baker zyxwvu", x.named(3, Check.letters("zyxwvu")), 0);
        Check.same("baker ab", x.named(3, 1 << 25 | 2 << 20), 1);
        Doc.says(5, "NONE: there is none such.");
        int[] wrong = {0, 1, -1, 1 << 20, 3 << 25, 1 << 25 | 1, 1 << 25 | 1 << 30, 1 << 25 | 1 << 31, Integer.MIN_VALUE,
            Integer.MAX_VALUE};
        for (int letters : wrong) {
            Check.same("tavern " + letters, x.named(0, letters), -1);
        }
        Check.same("a voice's name of taverns", x.named(0, 26 << 25), -1);
        Check.same("a tavern's name of voices", x.named(1, 2 << 25), -1);
        Check.same("a verse's name of bakers", x.named(3, 1 << 25), -1);
        for (int what : new int[] {4, 5, -1, Integer.MAX_VALUE, Integer.MIN_VALUE}) {
            Check.same("what " + what, x.named(what, 1 << 25), -1);
        }
        Check.tell(x, "voice a 1 1;");
        Check.same("of a text that is gone", x.named(0, 1 << 25), -1);
    }
}
