/** Promises 1 to 5: the tape, the text, its faults and its names. */
public final class TextTest {
    public static void main(String[] args) {
        newObject();
        feeding();
        telling();
        latestFault();
        faultsOfTokens();
        faultsOfTooMuch();
        faultsOfTellingAgain();
        faultsOfFormulas();
        knots();
        wholeTexts();
        naming();
        Check.end("TextTest");
    }

    private static void newObject() {
        RansomHymn x = new RansomHymn();
        for (int what = 0; what <= 11; what++) {
            Check.same("count(" + what + ") of a new object", x.count(what), 0);
        }
        Check.same("fault(0)", x.fault(0), 0);
        Check.same("fault(1)", x.fault(1), -1);
        Check.same("text(1)", x.text(1), -2);
        Check.same("text(0)", x.text(0), 0);
        Check.same("look(0, 0)", Check.thrownByLook(x, 0, 0), 1);
        Check.same("tavern(0, 0)", x.tavern(0, 0), -1);
        Check.same("verse(0, 0)", x.verse(0, 0), -1);
        Check.same("sold(0, 0, 0)", x.sold(0, 0, 0), -1);
        Check.same("back()", x.back(), -1);
        Check.same("feed", x.feed(0, 0, 0, 0, 0), 20);
    }

    private static void feeding() {
        RansomHymn x = new RansomHymn();
        for (int i = 1; i <= 40; i++) {
            Check.same("feed " + i, x.feed(0x20202020, 0x20202020, 0x20202020, 0x20202020, 0x20202020), 20 * i);
        }
        Check.same("feed beyond 800", x.feed(1, 2, 3, 4, 5), -1);
        Check.same("text(801)", x.text(801), -2);
        Check.same("text(800)", x.text(800), 0);
        Check.same("feed of an empty tape", x.feed(0x70757273, 0x65203132, 0x333b2020, 0x20202020, 0xffffffff), 20);
        Check.same("text(11)", x.text(11), 1);
        Check.same("purse", x.count(6), 123);
        x.feed(-1, 0, 0, 0, 0);
        Check.same("text(1) of a byte 255", x.text(1), -1);
        Check.same("its place", x.fault(1), 0);
    }

    private static void telling() {
        RansomHymn x = Check.told("tavern t 3 50;voice a 1 9 boy pawn t 5;verse v part 3 0;purse 30;seed 7;law crack 100;");
        x.redeem(0, 0, 0);
        x.sunday();
        x.hum(3);
        x.known(1);
        x.keep();
        Check.feed(x, "purse 1000;");
        Check.same("text(-1)", x.text(-1), -2);
        Check.same("text(21)", x.text(21), -2);
        Check.same("text(11) with a fault", x.text(11), -1);
        Check.same("tape is empty behind a fault", x.text(1), -2);
        Check.same("week stays", x.count(5), 1);
        Check.same("claim stays", x.look(0, 4), 1);
        Check.same("hummed stays", x.count(8), 1);
        Check.same("known stays", x.count(9), 1);
        Check.same("cracked stays", x.count(10), 1);
        Check.same("image stays", x.back(), 1);
        Check.same("a text", Check.tell(x, "tavern t 3 50;voice a 1 9 boy pawn t 5;verse v part 3 0;purse 30;"), 4);
        Check.same("week", x.count(5), 0);
        Check.same("claims", x.look(0, 4), 0);
        Check.same("hummed", x.count(8), 0);
        Check.same("cracked", x.count(10), 0);
        Check.same("purse", x.count(6), 30);
        Check.same("till", x.tavern(0, 1), 50);
        Check.same("image is gone", x.back(), -1);
        x.hum(1);
        x.hum(2);
        Check.same("all are known", x.count(9), 2);
        x.redeem(0, 0, 0);
        Check.same("redeemed", x.count(7), 1);
        Check.tell(x, "tavern t 3 50;voice a 1 9 boy pawn t 5;verse v part 3 0;");
        Check.same("nobody is redeemed", x.count(7), 0);
        Check.same("sings", x.sings(0, 0), -2);
        Check.same("undo", x.undo(), -1);
        Check.same("purse without", x.count(6), 0);
        Check.same("knots without", x.count(4), 0);
        Check.feed(x, "purse 7; purse 8;");
        Check.same("only the first n bytes", x.text(8), 1);
        Check.same("purse", x.count(6), 7);
        Check.same("the rest is gone", x.text(1), -2);
        cutOff("purse 12;", 7, 7);
        cutOff("law due 1<=2;", 10, 10);
        cutOff("law due week+1;", 12, 12);
        cutOff("law due week+1;", 11, 8);
        cutOff("purse 12;", 4, 0);
    }

    /** Nothing behind the first n bytes is looked at. */
    private static void cutOff(String text, int n, int place) {
        RansomHymn x = new RansomHymn();
        Check.feed(x, text);
        Check.same("the first " + n + " of " + text, x.text(n), -1);
        Check.same("fault", x.fault(0), 1);
        Check.same("place", x.fault(1), place);
    }

    private static void latestFault() {
        RansomHymn x = new RansomHymn();
        Check.tell(x, "purse 1000;");
        x.text(5);
        Check.same("fault(0) behind -2", x.fault(0), 2);
        Check.same("fault(1) behind -2", x.fault(1), 6);
        Check.same("fault(2)", x.fault(2), -1);
        Check.same("fault(-1)", x.fault(-1), -1);
        Check.tell(x, "purse 999;");
        Check.same("fault(0) behind a whole text", x.fault(0), 0);
        Check.same("fault(1) behind a whole text", x.fault(1), -1);
    }

    private static void faultsOfTokens() {
        Check.faulty(";", 1, 0);
        Check.faulty("purse 1;;", 1, 8);
        Check.faulty("purse 1", 1, 7);
        Check.faulty("purse 1  \n", 1, 10);
        Check.faulty("purse", 1, 5);
        Check.faulty("purse;", 1, 5);
        Check.faulty("purse\t1;", 1, 5);
        Check.faulty("Purse 1;", 1, 0);
        Check.faulty("purses 1;", 1, 0);
        Check.faulty("purse 1 2;", 1, 8);
        Check.faulty("purse a;", 1, 6);
        Check.faulty("tavern seventh 1 1;", 1, 7);
        Check.faulty("tavern part 1 1;", 1, 7);
        Check.faulty("tavern parts 1 1;", 1, 7);
        Check.faulty("tavern crack 1 1;", 1, 7);
        Check.faulty("tavern 5 1 1;", 1, 7);
        Check.faulty("tavern t 1;", 1, 10);
        Check.faulty("voice a 1;", 1, 9);
        Check.faulty("voice a 1 2 boy boy;", 1, 16);
        Check.faulty("voice a 1 2 odds 1 boy;", 1, 19);
        Check.faulty("voice a 1 2 odds;", 1, 16);
        Check.faulty("voice a 1 2 pawn;", 1, 16);
        Check.faulty("voice a 1 2 pawn due 1;", 1, 17);
        Check.faulty("verse v 1;", 1, 8);
        Check.faulty("verse v part part 1;", 1, 13);
        Check.faulty("verse v part 1 part;", 1, 19);
        Check.faulty("baker b 5;", 1, 9);
        Check.faulty("law;", 1, 3);
        Check.faulty("tavern;", 1, 6);
        Check.faulty("voice;", 1, 5);
        Check.faulty("verse;", 1, 5);
        Check.faulty("baker;", 1, 5);
        Check.faulty("law rate 1;", 1, 4);
        Check.faulty("law crack", 1, 9);
        Check.faulty("seed -1;", 1, 5);
        Check.faulty("seed 1\u00e9;", 1, 6);
        Check.same("tokens need no blanks between", Check.tell(new RansomHymn(), "tavern t5 6;voice a1 2pawn t3;"), 2);
        Check.same("no lines", Check.tell(new RansomHymn(), " \n  \n"), 0);
    }

    private static void faultsOfTooMuch() {
        Check.faulty("tavern t 100 1;", 2, 9);
        Check.faulty("tavern t 99 10000;", 2, 12);
        Check.faulty("tavern t 99 99999999999999999999999;", 2, 12);
        Check.faulty("tavern a 1 1;tavern b 1 1;tavern c 1 1;tavern;", 2, 39);
        Check.faulty("voice a 0 1;", 2, 8);
        Check.faulty("voice a 41 41;", 2, 8);
        Check.faulty("voice a 5 41;", 2, 10);
        Check.faulty("voice a 5 4;", 2, 10);
        Check.faulty("tavern t 1 1;voice a 1 2 pawn t 100;", 2, 32);
        Check.faulty("voice a 1 2 odds 0;", 2, 17);
        Check.faulty("voice a 1 2 odds 100;", 2, 17);
        Check.faulty("voice a 1 2;voice b 1 2;voice c 1 2;voice d 1 2;voice e 1 2;voice f 1 2;voice g 1 2;", 2, 72);
        Check.faulty("verse v part 41;", 2, 13);
        Check.faulty("verse v part 1 1 1 1 1 1 1 1 1;", 2, 29);
        Check.faulty("verse v part 1 part 1 part 1 part;", 2, 29);
        Check.faulty("verse a part 1;verse b part 1;verse c part 1;verse d part 1;verse e part 1;", 2, 60);
        Check.faulty("baker b 1000 1;", 2, 8);
        Check.faulty("baker b 1 1;baker c 1 1;baker d 1 1;baker e 1 1;", 2, 36);
        Check.faulty("purse 1000;", 2, 6);
        Check.faulty("seed 100000;", 2, 5);
        Check.faulty("law due 10000;", 2, 8);
        Check.faulty("law due 1+10000*(;", 2, 10);
    }

    private static void faultsOfTellingAgain() {
        Check.faulty("tavern t 1 1;tavern t 1 1;", 3, 20);
        Check.faulty("voice t 1 1;voice t 1 1;", 3, 18);
        Check.faulty("verse t part 1;verse t part 1;", 3, 21);
        Check.faulty("baker t 1 1;baker t 1 1;", 3, 18);
        Check.faulty("purse 0;purse 0;", 3, 8);
        Check.faulty("seed 0;seed 0;", 3, 7);
        Check.faulty("law due 1;law due 1;", 3, 14);
        Check.faulty("law crack 1;law due 1;law crack 1;", 3, 26);
        Check.same("kinds have names of their own",
                Check.tell(new RansomHymn(), "tavern t 1 1;voice t 1 1 pawn t 1;verse t part 1;baker t 1 1;"), 4);
        Check.faulty("voice a 1 1 pawn t 5;tavern t 1 1;", 4, 17);
        Check.faulty("tavern t 1 1;voice u 1 1;voice a 1 1 pawn u 5;", 4, 42);
    }

    private static void faultsOfFormulas() {
        Check.faulty("law due 1<2<3;", 1, 11);
        Check.faulty("law due 1<2+3<=3;", 1, 13);
        Check.faulty("law due (1<2)<(3<4)=5;", 1, 19);
        Check.faulty("law due 1+not 2;", 1, 10);
        Check.faulty("law due 1<not 2;", 1, 10);
        Check.faulty("law due not;", 1, 11);
        Check.faulty("law due 1 not 2;", 1, 10);
        Check.faulty("law due 1 and;", 1, 13);
        Check.faulty("law due or 1;", 1, 8);
        Check.faulty("law due -1;", 1, 8);
        Check.faulty("law due 1--1;", 1, 10);
        Check.faulty("law due ();", 1, 9);
        Check.faulty("law due (1;", 1, 10);
        Check.faulty("law due (1", 1, 10);
        Check.faulty("law due 1<=", 1, 11);
        Check.faulty("law due 1<", 1, 10);
        Check.faulty("law due 1);", 1, 9);
        Check.faulty("law due (1 2);", 1, 11);
        Check.faulty("law due 1 2;", 1, 10);
        Check.faulty("law due boy;", 1, 8);
        Check.faulty("law due a;", 1, 8);
        Check.faulty("law due 1< =2;", 1, 11);
        Check.faulty("law due 1=<2;", 1, 10);
        Check.faulty("law due 1><2;", 1, 10);
        Check.faulty("law due 1<>=2;", 1, 11);
        Check.faulty("law due 1!=2;", 1, 9);
        Check.faulty("law due (((((((((1)))))))));", 2, 16);
        Check.same("eight are open", Check.tell(new RansomHymn(), "law due ((((((((1))))))))+(1);"), 1);
        Check.same("a not in brackets", Check.tell(new RansomHymn(), "law due 1+(not not 2)<=(3=4);"), 1);
    }

    private static void knots() {
        RansomHymn x = new RansomHymn();
        String half = "1" + "+1".repeat(15) + "+";
        Check.same("63 knots", Check.tell(x, "law due " + half + "1" + "+1".repeat(15) + ";"), 1);
        Check.same("count(4)", x.count(4), 63);
        Check.same("63 and a name", Check.tell(x, "law due " + half + "1" + "+1".repeat(15) + ";law crack (week);"), 2);
        Check.same("count(4)", x.count(4), 64);
        String full = "law due 1" + "+1".repeat(31) + ";";
        Check.faulty(full + "law crack week+1;", 2, full.length() + 14);
        Check.faulty(full + "baker b 1 not 1;", 2, full.length() + 14);
        Check.faulty(full + "baker b 1 (1)and 1;", 2, full.length() + 13);
        Check.faulty(full + "baker b 1 1 1;", 1, full.length() + 12);
        String nots = "law due " + "not ".repeat(63) + "7;";
        Check.same("nots", Check.tell(x, nots), 1);
        Check.same("count(4)", x.count(4), 64);
        Check.faulty("law due " + "not ".repeat(64) + "7;", 2, 8 + 64 * 4);
    }

    private static void wholeTexts() {
        RansomHymn x = Check.told("tavern a 0 0;tavern b 99 9999;tavern c 1 1;\nvoice a 1 1;voice b 40 40 boy;"
                + "voice c 1 40 pawn b 99;voice d 1 2 odds 99;voice e 2 3 boy pawn a 0 odds 1;voice f 007 7;"
                + "verse a part 0 0 0 0 0 0 0 0 part 40 part 1 2;verse b part 1;verse c part 1;verse d part 1;"
                + "baker a 0 0;baker b 999 9999;baker c 1 week;purse 999;seed 99999;law due 0;law crack 9999;");
        int[] counts = {3, 6, 4, 3, 5, 0, 999, 0, 0, 0, 0, 999 + 9999 + 1 + 999 + 1, -1};
        for (int what = 0; what < counts.length; what++) {
            Check.same("count(" + what + ")", x.count(what), counts[what]);
        }
        Check.same("count(-1)", x.count(-1), -1);
    }

    private static void naming() {
        RansomHymn x = Check.told("tavern a 0 0;tavern abcdef 0 0;voice a 1 1;voice z 1 1;voice abcdef 1 2;"
                + "verse aa part 0;verse a part 0;baker zzzzzz 0 0;");
        Check.same("packed", Check.letters("a"), 1 << 25);
        Check.same("tavern a", x.named(0, Check.letters("a")), 0);
        Check.same("tavern abcdef", x.named(0, Check.letters("abcdef")), 1);
        Check.same("voice abcdef", x.named(1, Check.letters("abcdef")), 2);
        Check.same("voice z", x.named(1, Check.letters("z")), 1);
        Check.same("verse a", x.named(2, Check.letters("a")), 1);
        Check.same("verse z", x.named(2, Check.letters("z")), -1);
        Check.same("baker zzzzzz", x.named(3, Check.letters("zzzzzz")), 0);
        Check.same("tavern zzzzzz", x.named(0, Check.letters("zzzzzz")), -1);
        Check.same("nothing", x.named(0, 0), -1);
        Check.same("not to the left", x.named(0, 1), -1);
        Check.same("beyond 30 bits", x.named(0, Check.letters("a") | 1 << 30), -1);
        Check.same("below 0", x.named(0, Check.letters("a") | 1 << 31), -1);
        Check.same("what 4", x.named(4, Check.letters("a")), -1);
        Check.same("what -1", x.named(-1, Check.letters("a")), -1);
    }
}
