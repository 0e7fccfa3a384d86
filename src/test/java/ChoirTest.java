/** Promises 6 to 18: what is told, who is redeemed, and Sundays. */
public final class ChoirTest {
    private static final String TEXT = "tavern bull 5 10;tavern bell 2 3;voice al 10 20 pawn bull 7 odds 3;"
            + "voice bo 15 30 boy pawn bell 4;voice cy 1 40;verse ode part 12 0 25 part 18 18;verse hym part 30 31 0 0;"
            + "baker ray 20 notes*3;baker sal 9 high;purse 12;";

    public static void main(String[] args) {
        looking();
        taverns();
        versesAndPitches();
        dues();
        dueNames();
        dueBounds();
        values();
        soundsOfVoices();
        bidsOfBakers();
        cracksOfVoices();
        redeeming();
        undoing();
        barsHeard();
        sundays();
        crackedBoys();
        Check.end("ChoirTest");
    }

    private static void looking() {
        RansomHymn x = Check.told(TEXT);
        int[][] want = {{10, 20, 0, 7, 0, 0}, {15, 30, 1, 4, 0, 1}, {1, 40, -1, 0, 0, 0}};
        for (int voice = 0; voice < 3; voice++) {
            for (int what = 0; what < 6; what++) {
                Check.same("look(" + voice + ", " + what + ")", x.look(voice, what), want[voice][what]);
            }
        }
        Check.same("look(3, 0)", Check.thrownByLook(x, 3, 0), 1);
        Check.same("look(-1, 0)", Check.thrownByLook(x, -1, 0), 1);
        Check.same("look(3, 6)", Check.thrownByLook(x, 3, 6), 1);
        Check.same("look(0, 6)", Check.thrownByLook(x, 0, 6), 2);
        Check.same("look(2, -1)", Check.thrownByLook(x, 2, -1), 2);
    }

    private static void taverns() {
        RansomHymn x = Check.told("tavern t 5 10;tavern u 2 3;voice a 1 9 pawn t 1;voice b 1 9 pawn t 2;"
                + "voice c 1 9 pawn u 0;voice d 1 9;verse v part 0 0 part 0 part 0 1;verse w part 0;purse 9;");
        Check.same("rate", x.tavern(0, 0), 5);
        Check.same("till", x.tavern(1, 1), 3);
        Check.same("claims", x.tavern(0, 2), 0);
        x.redeem(0, 0, 0);
        x.redeem(0, 1, 1);
        x.redeem(0, 2, 2);
        x.redeem(1, 0, 3);
        Check.same("till", x.tavern(0, 1), 13);
        x.sunday();
        Check.same("claims on t", x.tavern(0, 2), 3);
        Check.same("claims on u", x.tavern(1, 2), 1);
        Check.same("the till isn't less", x.tavern(0, 1), 13);
        Check.same("tavern(0, 3)", x.tavern(0, 3), -1);
        Check.same("tavern(0, -1)", x.tavern(0, -1), -1);
        Check.same("tavern(2, 0)", x.tavern(2, 0), -1);
        Check.same("tavern(-1, 0)", x.tavern(-1, 0), -1);
    }

    private static void versesAndPitches() {
        RansomHymn x = Check.told("verse v part 1 2 3 4 5 6 7 8 part 40 part 0 9;verse w part 5;");
        int[] parts = {3, 8, 1, 2, -1};
        for (int what = 0; what < 5; what++) {
            Check.same("verse(0, " + what + ")", x.verse(0, what), parts[what]);
        }
        Check.same("verse(1, 2)", x.verse(1, 2), -1);
        Check.same("verse(0, -1)", x.verse(0, -1), -1);
        Check.same("verse(0, min)", x.verse(0, Integer.MIN_VALUE), -1);
        Check.same("verse(2, 0)", x.verse(2, 0), -1);
        Check.same("verse(-1, 0)", x.verse(-1, 0), -1);
        Check.same("pitch(0, 0, 7)", x.pitch(0, 0, 7), 8);
        Check.same("pitch(0, 0, 8)", x.pitch(0, 0, 8), -1);
        Check.same("pitch(0, 1, 0)", x.pitch(0, 1, 0), 40);
        Check.same("pitch(0, 1, 1)", x.pitch(0, 1, 1), -1);
        Check.same("pitch(0, 2, 0)", x.pitch(0, 2, 0), 0);
        Check.same("pitch(0, 2, 1)", x.pitch(0, 2, 1), 9);
        Check.same("pitch(0, 3, 0)", x.pitch(0, 3, 0), -1);
        Check.same("pitch(1, 0, -1)", x.pitch(1, 0, -1), -1);
        Check.same("pitch(1, -1, 0)", x.pitch(1, -1, 0), -1);
        Check.same("pitch(2, 0, 0)", x.pitch(2, 0, 0), -1);
    }

    private static void dues() {
        RansomHymn x = Check.told(TEXT);
        Check.same("debt without a law", x.due(0, 0, 0), 7);
        Check.same("of another tavern", x.due(1, 0, 1), 4);
        Check.same("free", x.due(0, 0, 2), 0);
        Check.same("no such voice", x.due(0, 0, 3), -1);
        Check.same("no such voice", x.due(0, 0, -1), -1);
        Check.same("no such part", x.due(0, 2, 0), -1);
        Check.same("no such part", x.due(0, -1, 0), -1);
        Check.same("no such verse", x.due(2, 0, 0), -1);
    }

    private static int dueBy(String law) {
        return Check.told("tavern t 11 0;voice a 10 20 pawn t 13;verse v part 12 0 25 14 0 0 part 3;law due " + law + ";")
                .due(0, 0, 0);
    }

    private static void dueNames() {
        Check.same("debt", dueBy("debt"), 13);
        Check.same("rate", dueBy("rate"), 11);
        Check.same("notes", dueBy("notes"), 2);
        Check.same("rests", dueBy("rests"), 3);
        Check.same("high", dueBy("high"), 25);
        Check.same("parts", dueBy("parts"), 2);
        Check.same("week", dueBy("week+7"), 7);
        RansomHymn x = Check.told("tavern t 1 0;voice a 1 9 pawn t 13;verse v part 0 0;law due week*10+high;");
        x.sunday();
        x.sunday();
        Check.same("week 2, no note", x.due(0, 0, 0), 20);
    }

    private static void dueBounds() {
        Check.same("above 999", dueBy("1000"), 999);
        Check.same("999", dueBy("999"), 999);
        Check.same("below 0", dueBy("0-1"), 0);
        Check.same("by 0", dueBy("5/0"), 13);
        Check.same("by 0, what doesn't matter", dueBy("1 or 5/0"), 13);
        Check.same("by 0, and", dueBy("0 and 5/(1-1)"), 13);
        Check.same("10 to the 12", dueBy("1000*1000*1000*1000/(1000*1000*1000*1000)"), 1);
        Check.same("10 to the 12 and 1", dueBy("0*(1000*1000*1000*1000+1)"), 13);
        Check.same("below 0 by 10 to the 12", dueBy("0*(0-1000*1000*1000*1000)"), 0);
        Check.same("below 0 by more", dueBy("0*(0-1000*1000*1000*1000-1)"), 13);
        Check.same("a product beyond a long", dueBy("9999*9999*9999*(9999*9999*9999)"), 13);
        Check.same("a product that would wrap to 0", dueBy("(8192*8192*8192)*(8192*8192)*0"), 13);
        Check.same("times 0", dueBy("0*9999+3"), 3);
    }

    private static void values() {
        Check.same("times ahead of plus", dueBy("1+2*3"), 7);
        Check.same("from the left", dueBy("20-5-3"), 12);
        Check.same("by from the left", dueBy("100/5/2"), 10);
        Check.same("cut", dueBy("17/5"), 3);
        Check.same("cut towards 0", dueBy("100+(0-17)/5"), 97);
        Check.same("by below 0", dueBy("100+17/(0-5)"), 97);
        Check.same("brackets", dueBy("(1+2)*3"), 9);
        Check.same("less", dueBy("1<2"), 1);
        Check.same("less, not", dueBy("2<2"), 0);
        Check.same("less or equal", dueBy("2<=2"), 1);
        Check.same("less or equal, not", dueBy("3<=2"), 0);
        Check.same("equal", dueBy("2=2"), 1);
        Check.same("equal, not", dueBy("2=3"), 0);
        Check.same("unlike", dueBy("2<>3"), 1);
        Check.same("unlike, not", dueBy("2<>2"), 0);
        Check.same("greater or equal", dueBy("2>=2"), 1);
        Check.same("greater or equal, not", dueBy("1>=2"), 0);
        Check.same("greater", dueBy("3>2"), 1);
        Check.same("greater, not", dueBy("2>2"), 0);
        Check.same("sums ahead of comparing", dueBy("1+1<1+2"), 1);
        Check.same("not behind comparing", dueBy("not 1<2"), 0);
        Check.same("not ahead of and", dueBy("not 1 and 0"), 0);
        Check.same("not of a sum", dueBy("not 5+1"), 0);
        Check.same("not not", dueBy("not not 5"), 1);
        Check.same("and ahead of or", dueBy("1 or 1 and 0"), 1);
        Check.same("or, brackets", dueBy("(1 or 1) and 0"), 0);
        Check.same("what isn't 0 is as 1", dueBy("7 and (0-3)"), 1);
        Check.same("or is 1", dueBy("7 or 3"), 1);
        Check.same("or is 0", dueBy("0 or 0"), 0);
        Check.same("bit in a sum", dueBy("(1<2)+(2<3)"), 2);
    }

    private static void soundsOfVoices() {
        RansomHymn x = Check.told("voice a 10 20;voice b 1 40;verse v part 9 10 15 20 21 0;");
        Check.same("from low to high", x.sounds(0, 0, 0), 3);
        Check.same("no rest", x.sounds(0, 0, 1), 5);
        Check.same("no such voice", x.sounds(0, 0, 2), -1);
        Check.same("no such part", x.sounds(0, 1, 0), -1);
        Check.same("no such verse", x.sounds(1, 0, 0), -1);
        Check.same("below", x.sounds(-1, 0, 0), -1);
    }

    private static void bidsOfBakers() {
        String text = "verse v part 1 0 7 part 0 0 9;verse w part 3;baker a 900 debt+rate+notes*100+rests*10+parts;"
                + "baker b 25 high;baker c 999 week*5/week;";
        RansomHymn x = Check.told(text);
        Check.same("notes, rests, parts", x.bids(0, 0), 332);
        Check.same("of another verse", x.bids(0, 1), 101);
        Check.same("high", x.bids(1, 0), 9);
        Check.same("an error", x.bids(2, 0), 0);
        x.sunday();
        Check.same("week 1", x.bids(2, 0), 5);
        Check.same("no such baker", x.bids(3, 0), -1);
        Check.same("no such baker", x.bids(-1, 0), -1);
        Check.same("no such verse", x.bids(0, 2), -1);
        Check.same("no such verse", x.bids(0, -1), -1);
        RansomHymn y = Check.told("verse v part 1;baker a 25 9999;baker b 999 9999;baker c 9 0-5;");
        Check.same("at most the purse", y.bids(0, 0), 25);
        Check.same("at most 999", y.bids(1, 0), 999);
        Check.same("not below 0", y.bids(2, 0), 0);
    }

    private static void cracksOfVoices() {
        RansomHymn x = Check.told("tavern t 11 0;voice a 1 9 pawn t 13;voice b 1 40 boy;verse v part 3 0 part 3;"
                + "law crack debt+rate+notes+rests+parts+week+high;");
        Check.same("of a man", x.cracks(0), 33);
        Check.same("of a boy who is free", x.cracks(1), 40);
        x.sunday();
        Check.same("a week on", x.cracks(1), 41);
        Check.same("no such one", x.cracks(2), -1);
        Check.same("no such one", x.cracks(-1), -1);
        Check.same("without a law", Check.told("voice a 1 9 boy;").cracks(0), 0);
        Check.same("with an error", Check.told("voice a 1 9 boy;law crack 5/week;").cracks(0), 0);
        Check.same("above 100", Check.told("voice a 1 9 boy;law crack 101;").cracks(0), 100);
        Check.same("below 0", Check.told("voice a 1 9 boy;law crack 0-1;").cracks(0), 0);
    }

    private static void redeeming() {
        RansomHymn x = Check.told(TEXT);
        Check.same("no such verse", x.redeem(2, 0, 0), -1);
        Check.same("no such part", x.redeem(0, 2, 0), -1);
        Check.same("no such voice", x.redeem(0, 0, 3), -1);
        Check.same("below", x.redeem(0, 0, -1), -1);
        Check.same("redeem", x.redeem(0, 0, 0), 7);
        Check.same("the part has a voice", x.redeem(0, 0, 2), -1);
        Check.same("the voice sings in the verse", x.redeem(0, 1, 0), -1);
        Check.same("not so much", x.redeem(1, 0, 0), -2);
        Check.same("just so much", x.redeem(0, 1, 1), 4);
        Check.same("purse", x.count(6), 1);
        Check.same("till", x.tavern(0, 1), 17);
        Check.same("other till", x.tavern(1, 1), 7);
        Check.same("free", x.redeem(1, 0, 2), 0);
        Check.same("sings(0, 0)", x.sings(0, 0), 0);
        Check.same("sings(0, 1)", x.sings(0, 1), 1);
        Check.same("sings(1, 0)", x.sings(1, 0), 2);
        Check.same("sings(0, 2)", x.sings(0, 2), -1);
        Check.same("sings(2, 0)", x.sings(2, 0), -1);
        Check.same("sings(-1, 0)", x.sings(-1, 0), -1);
        Check.same("count(7)", x.count(7), 3);
        RansomHymn y = Check.told("tavern t 0 0;voice a 1 9 pawn t 5;verse v part 1 part 2;verse w part 1;purse 10;");
        Check.same("once in each verse", y.redeem(0, 1, 0), 5);
        Check.same("just enough", y.redeem(1, 0, 0), 5);
        Check.same("nobody", y.sings(0, 0), -2);
        Check.same("purse", y.count(6), 0);
    }

    private static void undoing() {
        RansomHymn x = Check.told(TEXT);
        Check.same("none", x.undo(), -1);
        x.redeem(0, 0, 0);
        x.redeem(0, 1, 1);
        Check.same("the latest", x.undo(), 1);
        Check.same("purse", x.count(6), 5);
        Check.same("till", x.tavern(1, 1), 3);
        Check.same("nobody", x.sings(0, 1), -2);
        Check.same("again", x.redeem(0, 1, 1), 4);
        Check.same("undo", x.undo(), 1);
        Check.same("undo", x.undo(), 0);
        Check.same("none is left", x.undo(), -1);
        Check.same("purse", x.count(6), 12);
        x.redeem(0, 0, 0);
        x.sunday();
        Check.same("not of a week that is over", x.undo(), -1);
        RansomHymn y = Check.told("tavern t 0 2;voice a 1 9 pawn t 1;verse v part 0 0 0 0 0 0 0 0 ;purse 99;");
        y.redeem(0, 0, 0);
        y.sunday();
        y.redeem(0, 0, 0);
        Check.same("a run", y.pay(0), 4);
        Check.same("the till has less", y.undo(), -2);
        Check.same("it stays", y.sings(0, 0), 0);
        Check.same("count(7)", y.count(7), 1);
        Check.same("purse", y.count(6), 97);
        RansomHymn z = Check.told("tavern t 0 0;voice a 1 9 pawn t 1;verse v part 1;purse 1;");
        z.redeem(0, 0, 0);
        Check.same("the till has just that", z.undo(), 0);
    }

    private static void barsHeard() {
        RansomHymn x = Check.told("voice a 5 9;voice b 1 40;voice c 1 4;verse v part 5 0 4 6 part 1 part 7 8 0 9;verse w part 1;");
        Check.same("nobody", x.bar(0, 0), 0);
        x.redeem(0, 0, 0);
        x.redeem(0, 2, 1);
        int[] want = {5, 4, 0, 5, 0, 0, 0, 0};
        for (int bar = 0; bar < 8; bar++) {
            Check.same("bar(0, " + bar + ")", x.bar(0, bar), want[bar]);
        }
        x.redeem(0, 1, 2);
        Check.same("all parts", x.bar(0, 0), 7);
        Check.same("bar(0, 8)", x.bar(0, 8), -1);
        Check.same("bar(0, -1)", x.bar(0, -1), -1);
        Check.same("bar(2, 0)", x.bar(2, 0), -1);
        Check.same("bar(-1, 0)", x.bar(-1, 0), -1);
        Check.same("bar(1, 7)", x.bar(1, 7), 0);
    }

    private static void sundays() {
        RansomHymn x = Check.told(TEXT);
        Check.same("nothing is heard", x.sunday(), 0);
        Check.same("week", x.count(5), 1);
        x.redeem(0, 0, 0);
        x.redeem(0, 1, 1);
        x.redeem(1, 0, 2);
        Check.same("heard", x.sunday(), 5);
        Check.same("a claim", x.look(0, 4), 1);
        Check.same("no rest", x.look(1, 4), 0);
        Check.same("free", x.look(2, 4), 0);
        Check.same("nobody is redeemed", x.count(7), 0);
        Check.same("nobody sings", x.sings(0, 0), -2);
        Check.same("week", x.count(5), 2);
        Check.same("purse", x.count(6), 1);
        RansomHymn y = Check.told("tavern t 0 0;voice a 9 9 pawn t 0;verse v part 0 0 1;verse w part 0 9;");
        for (int week = 1; week <= 3; week++) {
            y.redeem(0, 0, 0);
            y.redeem(1, 0, 0);
            Check.same("heard", y.sunday(), 1);
            Check.same("claims of all parts, sung or not", y.look(0, 4), 3 * week);
        }
    }

    /** Numbers modulo 100 by seed 7: 64 6 68 74 31 65 34 90. */
    private static void crackedBoys() {
        String boys = "voice a 1 9 boy;voice b 1 9;voice c 1 9 boy;voice d 1 9 boy;";
        RansomHymn x = Check.told(boys + "seed 7;law crack 64;");
        x.sunday();
        Check.same("64 isn't below 64", x.look(0, 5), 1);
        Check.same("a man", x.look(1, 5), 0);
        Check.same("6 is", x.look(2, 5), 2);
        Check.same("68 isn't", x.look(3, 5), 1);
        Check.same("cracked", x.count(10), 1);
        x.sunday();
        Check.same("74 isn't", x.look(0, 5), 1);
        Check.same("31 is, the cracked one has no number", x.look(3, 5), 2);
        RansomHymn y = Check.told(boys + "seed 7;law crack week*75;");
        y.sunday();
        Check.same("E of the week that is over", y.count(10), 0);
        y.sunday();
        Check.same("numbers are drawn without a chance, too: 74 31 65", y.count(10), 3);
        RansomHymn z = Check.told("voice a 1 9 boy;law crack 1;");
        z.sunday();
        Check.same("seed 0: 0", z.look(0, 5), 2);
        RansomHymn u = Check.told("tavern t 0 0;voice a 1 9 boy pawn t 3;verse v part 1 2 0;purse 9;law due notes+5;law crack 100;");
        u.redeem(0, 0, 0);
        Check.same("sung ahead of cracking", u.sunday(), 2);
        Check.same("pawned boys crack", u.look(0, 5), 2);
        Check.same("no notes", u.due(0, 0, 0), 5);
        Check.same("cracked", u.redeem(0, 0, 0), -1);
        Check.same("sounds none", u.sounds(0, 0, 0), 0);
        Check.same("E goes on", u.cracks(0), 100);
    }
}
