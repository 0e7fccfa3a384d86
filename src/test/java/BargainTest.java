/** Promises 19 to 36: choices, Easter, hums, rounds, runs, chances, images and counts. */
public final class BargainTest {
    public static void main(String[] args) {
        bests();
        bestOfLargeTexts();
        ties();
        easters();
        hums();
        strikes();
        thievesAndOdds();
        gangs();
        rounds();
        roundTies();
        runs();
        wholes();
        images();
        imagesAndHums();
        counts();
        Check.end("BargainTest");
    }

    private static void bests() {
        RansomHymn x = Check.told("tavern bull 5 10;tavern bell 2 3;voice al 10 20 pawn bull 7;voice bo 15 30 boy pawn bell 4;"
                + "voice cy 1 40;verse ode part 12 0 25 part 18 18;verse hym part 30 31 0 0;purse 12;");
        Check.same("best(0, 0)", x.best(0, 0), 4);
        Check.same("best(0, 1)", x.best(0, 1), 0);
        Check.same("best(3, 0)", x.best(3, 0), 4);
        Check.same("best(4, 0)", x.best(4, 0), 6);
        Check.same("best(4, 1)", x.best(4, 1), 4);
        Check.same("best(999, 1)", x.best(999, 1), 4);
        Check.same("chosen(3, 0, 1)", x.chosen(3, 0, 1), -2);
        Check.same("chosen(4, 0, 0)", x.chosen(4, 0, 0), 2);
        Check.same("chosen(4, 0, 1)", x.chosen(4, 0, 1), 1);
        Check.same("chosen(4, 1, 0)", x.chosen(4, 1, 0), 2);
        x.redeem(0, 0, 2);
        x.redeem(0, 1, 0);
        Check.same("whoever is redeemed doesn't count", x.best(4, 0), 6);
        Check.same("best(1000, 0)", x.best(1000, 0), -1);
        Check.same("best(-1, 0)", x.best(-1, 0), -1);
        Check.same("best(0, 2)", x.best(0, 2), -1);
        Check.same("best(0, -1)", x.best(0, -1), -1);
        Check.same("chosen(1000, 0, 0)", x.chosen(1000, 0, 0), -1);
        Check.same("chosen(-1, 0, 0)", x.chosen(-1, 0, 0), -1);
        Check.same("chosen(0, 0, 2)", x.chosen(0, 0, 2), -1);
        Check.same("chosen(0, 2, 0)", x.chosen(0, 2, 0), -1);
        Check.same("chosen(0, -1, 0)", x.chosen(0, -1, 0), -1);
        RansomHymn y = Check.told("voice a 1 9 boy;voice b 1 2;verse v part 1 5;law crack 100;");
        Check.same("a boy", y.chosen(0, 0, 0), 0);
        RansomHymn w = Check.told("voice a 30 40;voice b 1 9;verse v part 1 5;");
        Check.same("chosen ahead of best", w.chosen(0, 0, 0), 1);
        y.keep();
        y.sunday();
        Check.same("cracked", y.chosen(0, 0, 0), 1);
        Check.same("one note", y.best(0, 0), 1);
        y.back();
        Check.same("whole again", y.best(0, 0), 2);
        RansomHymn z = Check.told("tavern t 0 0;voice a 1 9 pawn t 9;verse v part 1;law due week;");
        Check.same("due now", z.best(0, 0), 1);
        z.sunday();
        Check.same("due a week on", z.best(0, 0), 0);
        Check.same("due a week on", z.best(1, 1), 1);
        Check.tell(z, "voice a 1 9;verse v part 1 1 1;");
        Check.same("another text", z.best(0, 0), 3);
    }

    private static void bestOfLargeTexts() {
        StringBuilder text = new StringBuilder("tavern t 0 0;");
        for (int i = 0; i < 6; i++) {
            text.append("voice ").append((char) ('a' + i)).append(" 1 40 pawn t ").append(10 + i).append(';');
        }
        for (int i = 0; i < 4; i++) {
            text.append("verse ").append((char) ('a' + i));
            for (int part = 0; part < 3; part++) {
                text.append(" part 1 2 3 4 5 6 7 8");
            }
            text.append(';');
        }
        RansomHymn x = Check.told(text.toString());
        Check.same("all notes", x.best(999, 0), 96);
        Check.same("the cheapest three each", x.best(999, 1), 4 * (10 + 11 + 12));
        Check.same("one crown less", x.best(131, 0), 88);
        Check.same("without one of the dearest", x.best(131, 1), 120);
        Check.same("first rows first", x.chosen(999, 3, 2), 2);
        Check.same("none stands as late as can be", x.chosen(131, 3, 2), -2);
        Check.same("nothing", x.best(9, 0), 0);
        RansomHymn y = Check.told(text + "law due 999;");
        Check.same("one of 999", y.best(999, 0), 8);
        Check.same("crowns", y.best(999, 1), 999);
        Check.same("the first part", y.chosen(999, 0, 0), 0);
        Check.same("the others none", y.chosen(999, 0, 1), -2);
        Check.same("too dear", y.best(998, 0), 0);
    }

    private static void ties() {
        RansomHymn x = Check.told("tavern t 0 0;voice a 30 40;voice b 1 9 pawn t 3;voice c 1 9 pawn t 2;voice d 1 9 pawn t 2;"
                + "verse v part 1 part 20;");
        Check.same("most notes", x.best(9, 0), 1);
        Check.same("fewest crowns", x.best(9, 1), 2);
        Check.same("of several the first", x.chosen(9, 0, 0), 2);
        Check.same("a voice for nothing ahead of none", x.chosen(9, 0, 1), 0);
        Check.same("too few crowns: first part", x.chosen(1, 0, 0), 0);
        Check.same("too few crowns: none", x.chosen(1, 0, 1), -2);
        RansomHymn y = Check.told("voice a 1 9;verse v part 1 part 1;");
        Check.same("the first part has it", y.chosen(0, 0, 0), 0);
        Check.same("once in a verse", y.chosen(0, 0, 1), -2);
    }

    private static void easters() {
        RansomHymn x = Check.told("verse a part 1 1 1;verse b part 2 2;verse c part 0;baker p 20 notes*5;baker q 12 12;"
                + "baker r 5 notes*4;purse 3;");
        Check.same("p has it", x.sold(7, 0, 0), 0);
        Check.same("for q's bid", x.sold(7, 0, 1), 12);
        Check.same("p has 8 left: q", x.sold(7, 1, 0), 1);
        Check.same("for 8", x.sold(7, 1, 1), 8);
        Check.same("q has 4 left", x.sold(7, 2, 0), 1);
        Check.same("no other bids", x.sold(7, 2, 1), 0);
        Check.same("b alone", x.sold(2, 1, 0), 1);
        Check.same("for p's bid", x.sold(2, 1, 1), 10);
        Check.same("not of these", x.sold(2, 0, 0), -1);
        Check.same("no such verses", x.sold(8, 0, 0), -1);
        Check.same("no such verses", x.sold(-1, 0, 0), -1);
        Check.same("no such verses", x.sold(15, 0, 0), -1);
        Check.same("no such verse", x.sold(7, 3, 0), -1);
        Check.same("no such verse", x.sold(7, -1, 0), -1);
        Check.same("no such verse", x.sold(7, 32, 0), -1);
        Check.same("no such what", x.sold(7, 0, 2), -1);
        Check.same("no such what", x.sold(7, 0, -1), -1);
        Check.same("nothing was held", x.count(6), 3);
        Check.same("easter(8)", x.easter(8), -1);
        Check.same("easter(-1)", x.easter(-1), -1);
        Check.same("easter(0)", x.easter(0), 0);
        Check.same("easter(7)", x.easter(7), 20);
        Check.same("purse", x.count(6), 23);
        Check.same("p", x.bids(0, 0), 8);
        Check.same("q", x.bids(1, 0), 4);
        Check.same("r", x.bids(2, 0), 5);
        Check.same("all coin", x.count(11), 40);
        RansomHymn y = Check.told("verse a part 1;baker p 9 5;baker q 9 5;baker r 9 5;");
        Check.same("the first of several", y.sold(1, 0, 0), 0);
        Check.same("for as much", y.sold(1, 0, 1), 5);
        RansomHymn z = Check.told("verse a part 1;baker p 9 0;baker q 0 5;");
        Check.same("nobody", z.sold(1, 0, 0), -2);
        Check.same("for nothing", z.sold(1, 0, 1), 0);
        Check.same("easter", z.easter(1), 0);
        RansomHymn u = Check.told("verse a part 1;baker p 9 1;baker q 9 7;baker r 9 3;");
        Check.same("the greatest", u.sold(1, 0, 0), 1);
        Check.same("for the next one behind it", u.sold(1, 0, 1), 3);
    }

    private static void hums() {
        RansomHymn x = Check.told("voice a 1 40;");
        Check.same("hum(0)", x.hum(0), -1);
        Check.same("hum(41)", x.hum(41), -1);
        Check.same("hum(-5)", x.hum(-5), -1);
        Check.same("strike(0)", x.strike(0), -1);
        Check.same("hum(1)", x.hum(1), 0);
        Check.same("hum(40)", x.hum(40), 1);
        Check.same("strike(2)", x.strike(2), -1);
        Check.same("strike(-1)", x.strike(-1), -1);
        Check.same("strike(1)", x.strike(1), 2);
        for (int i = 3; i < 24; i++) {
            Check.same("hum " + i, x.hum(20), i);
        }
        Check.same("the 25th", x.hum(20), -1);
        Check.same("a strike as the 25th", x.strike(3), -1);
        Check.same("count(8)", x.count(8), 24);
    }

    private static void strikes() {
        RansomHymn x = Check.told("voice a 1 9;voice b 1 30;voice c 20 40;");
        x.hum(5);
        x.hum(25);
        Check.same("b", x.thieves(), 2);
        Check.same("strike 1", x.strike(1), 2);
        Check.same("a, b", x.thieves(), 3);
        Check.same("strike the strike", x.strike(2), 3);
        Check.same("b again", x.thieves(), 2);
        Check.same("strike that", x.strike(3), 4);
        Check.same("a, b again", x.thieves(), 3);
        Check.isTrue("known(4)", x.known(4));
        Check.same("count(9)", x.count(9), 4);
        Check.same("b by 4", x.thieves(), 2);
        Check.isTrue("known(3)", x.known(3));
        Check.same("a, b by 3", x.thieves(), 3);
        Check.isTrue("known(2)", x.known(2));
        Check.same("b by 2", x.thieves(), 2);
        Check.isTrue("known(1)", x.known(1));
        Check.same("a, b by 1", x.thieves(), 3);
        Check.isTrue("known(0)", x.known(0));
        Check.same("all by 0", x.thieves(), 7);
        Check.isTrue("known(5)", x.known(5));
        x.hum(35);
        Check.same("those to come don't count", x.thieves(), 3);
        Check.same("count(9)", x.count(9), 5);
        Check.isTrue("known(7) is not", !x.known(7));
        Check.isTrue("known(-2) is not", !x.known(-2));
        Check.same("count(9)", x.count(9), 5);
        Check.isTrue("known(-1)", x.known(-1));
        Check.same("by all", x.thieves(), 0);
        Check.same("count(9)", x.count(9), 6);
        x.strike(5);
        Check.same("those to come count", x.thieves(), 3);
        Check.same("count(9)", x.count(9), 7);
    }

    private static void thievesAndOdds() {
        RansomHymn x = Check.told("voice a 10 20 odds 6;voice b 15 30 odds 99;voice c 1 40 boy odds 4;law crack 100;");
        Check.same("all", x.thieves(), 7);
        Check.same("odds(0, 0)", x.odds(0, 0), 6);
        Check.same("odds(0, 1)", x.odds(0, 1), 109);
        x.hum(20);
        x.hum(10);
        Check.same("a, c", x.thieves(), 5);
        Check.same("odds(0, 0)", x.odds(0, 0), 3);
        Check.same("odds(0, 1)", x.odds(0, 1), 5);
        Check.same("odds(2, 0)", x.odds(2, 0), 2);
        Check.same("no thief", x.odds(1, 0), 0);
        Check.same("no thief", x.odds(1, 1), 1);
        Check.same("odds(3, 0)", x.odds(3, 0), -1);
        Check.same("odds(-1, 0)", x.odds(-1, 0), -1);
        Check.same("odds(0, 2)", x.odds(0, 2), -1);
        Check.same("odds(0, -1)", x.odds(0, -1), -1);
        x.sunday();
        Check.same("c is cracked", x.thieves(), 1);
        Check.same("sure", x.odds(0, 0), 1);
        Check.same("sure", x.odds(0, 1), 1);
        Check.same("cracked is no thief", x.odds(2, 0), 0);
    }

    private static void gangs() {
        RansomHymn x = Check.told("voice a 1 10;voice b 11 20;voice c 21 30 boy;voice d 5 25;voice e 1 25 boy;law crack 100*week;");
        Check.same("nothing is known", x.gang(), 0);
        x.hum(7);
        Check.same("the least bits", x.gang(), 1);
        x.hum(15);
        Check.same("one is fewer than two", x.gang(), 8);
        x.hum(1);
        Check.same("e", x.gang(), 16);
        x.hum(30);
        Check.same("two: c and e", x.gang(), 20);
        x.sunday();
        x.sunday();
        Check.same("cracked ones don't reach", x.gang(), -2);
        x.strike(3);
        Check.same("a and b ahead of a and d", x.gang(), 3);
        x.hum(40);
        Check.same("nobody", x.gang(), -2);
        RansomHymn y = Check.told("voice a 1 1;voice b 2 2;voice c 3 3;voice d 4 4;voice e 5 5;voice f 6 6;");
        for (int pitch = 1; pitch <= 6; pitch++) {
            y.hum(pitch);
        }
        Check.same("all six", y.gang(), 63);
        y.strike(0);
        Check.same("all but a", y.gang(), 62);
    }

    private static void rounds() {
        RansomHymn x = Check.told("tavern bull 5 10;voice al 10 20 pawn bull 7;voice bo 15 30 boy;voice cy 1 40;"
                + "verse ode part 12 0 25 part 18 18;law crack 100;");
        Check.same("round by one", x.round(0, 0, 1, 1), 1);
        Check.same("entry", x.entry(0, 0, 1, 1, 0), 2);
        Check.same("round by two", x.round(0, 0, 2, 1), 1);
        Check.same("the first", x.entry(0, 0, 2, 1, 0), 0);
        Check.same("the second", x.entry(0, 0, 2, 1, 1), 2);
        Check.same("far behind", x.round(0, 1, 2, 8), 6);
        Check.same("by three", x.round(0, 1, 3, 2), 0);
        Check.same("entry 2", x.entry(0, 1, 3, 2, 2), 2);
        Check.same("not so many", x.round(0, 0, 4, 1), -2);
        Check.same("not so many", x.entry(0, 0, 4, 1, 0), -2);
        Check.same("no such k, not so many", x.entry(0, 0, 4, 1, 4), -1);
        Check.same("n 0", x.round(0, 0, 0, 1), -1);
        Check.same("n 5", x.round(0, 0, 5, 1), -1);
        Check.same("d 0", x.round(0, 0, 1, 0), -1);
        Check.same("d 9", x.round(0, 0, 1, 9), -1);
        Check.same("no such part", x.round(0, 2, 1, 1), -1);
        Check.same("no such verse", x.round(1, 0, 1, 1), -1);
        Check.same("k -1", x.entry(0, 0, 2, 1, -1), -1);
        Check.same("k 2", x.entry(0, 0, 2, 1, 2), -1);
        Check.same("entry n 5", x.entry(0, 0, 5, 1, 0), -1);
        Check.same("entry d 9", x.entry(0, 0, 1, 9, 0), -1);
        Check.same("entry of no part", x.entry(0, -1, 1, 1, 0), -1);
        x.sunday();
        Check.same("bo is cracked", x.round(0, 1, 2, 2), 0);
        Check.same("al and cy", x.entry(0, 1, 2, 2, 1), 2);
        Check.same("only two are left", x.round(0, 1, 3, 2), -2);
    }

    private static void roundTies() {
        RansomHymn x = Check.told("voice a 1 9;voice b 1 9;voice c 1 9;voice d 1 9;voice e 30 40;verse v part 5 0 0 0 0 0 0 5;");
        Check.same("four with d 1", x.round(0, 0, 4, 1), 3);
        for (int k = 0; k < 4; k++) {
            Check.same("the first by numbers", x.entry(0, 0, 4, 1, k), k);
        }
        Check.same("four with d 8: 32 bars", x.round(0, 0, 4, 8), 24);
        RansomHymn y = Check.told("voice a 30 40;voice b 1 9;voice c 1 9;verse v part 5;");
        Check.same("a gap less", y.round(0, 0, 2, 1), 0);
        Check.same("b", y.entry(0, 0, 2, 1, 0), 1);
        Check.same("c", y.entry(0, 0, 2, 1, 1), 2);
        Check.same("with a", y.round(0, 0, 3, 1), 1);
        Check.same("a goes first", y.entry(0, 0, 3, 1, 0), 0);
    }

    private static void runs() {
        RansomHymn x = Check.told("tavern t 0 5;tavern u 0 50;voice a 1 9 pawn u 0;voice b 1 9 pawn t 0;voice c 1 9 pawn t 0;"
                + "voice d 1 9 pawn t 0;voice e 1 9;verse v part 0 0 0 part 0 0 0 part 0;verse w part 0 0 part 0;purse 9;");
        x.redeem(0, 0, 1);
        x.redeem(0, 1, 2);
        x.redeem(0, 2, 3);
        x.redeem(1, 0, 0);
        x.redeem(1, 1, 4);
        x.sunday();
        Check.same("b first", x.run(0, 1), 3);
        Check.same("c has what is left", x.run(0, 2), 2);
        Check.same("d has nothing", x.run(0, 3), 0);
        Check.same("all", x.run(0, -1), 5);
        Check.same("a elsewhere", x.run(0, 0), -1);
        Check.same("e is free", x.run(0, 4), -1);
        Check.same("no such voice", x.run(0, 5), -1);
        Check.same("below NONE", x.run(0, -2), -1);
        Check.same("no such tavern", x.run(2, -1), -1);
        Check.same("no such tavern", x.run(-1, -1), -1);
        Check.same("free and no tavern", x.run(-1, 4), -1);
        Check.same("a", x.run(1, 0), 2);
        Check.same("nothing was paid", x.tavern(0, 1), 5);
        Check.same("pay", x.pay(0), 5);
        Check.same("till", x.tavern(0, 1), 0);
        Check.same("claims", x.tavern(0, 2), 2);
        Check.same("b", x.look(1, 4), 0);
        Check.same("c", x.look(2, 4), 1);
        Check.same("d", x.look(3, 4), 1);
        Check.same("pay again", x.pay(0), 0);
        Check.same("all coin", x.count(11), 64);
        Check.same("pay(1)", x.pay(1), 2);
        Check.same("till", x.tavern(1, 1), 48);
        Check.same("all coin", x.count(11), 64);
        Check.same("pay(2)", x.pay(2), -1);
        Check.same("pay(-1)", x.pay(-1), -1);
    }

    private static void wholes() {
        RansomHymn x = Check.told("voice a 1 9 boy;voice b 1 9;law crack 10*week;");
        Check.same("n 0", x.whole(0, 0, 0), 1);
        Check.same("n 0", x.whole(0, 0, 1), 1);
        Check.same("week 0 is sure", x.whole(0, 1, 1), 1);
        Check.same("90 * 80", x.whole(0, 3, 0), 18);
        Check.same("by 100 * 100", x.whole(0, 3, 1), 25);
        Check.same("a man", x.whole(1, 9, 0), 1);
        Check.same("a man", x.whole(1, 9, 1), 1);
        x.sunday();
        Check.same("from this week on", x.whole(0, 2, 0), 18);
        Check.same("n 9: 9 to 1 tenths", x.whole(0, 9, 0), 567);
        Check.same("n 9", x.whole(0, 9, 1), 1562500);
        Check.same("no such voice", x.whole(2, 1, 0), -1);
        Check.same("no such voice", x.whole(-1, 1, 0), -1);
        Check.same("n 10", x.whole(0, 10, 0), -1);
        Check.same("n -1", x.whole(0, -1, 0), -1);
        Check.same("what 2", x.whole(0, 1, 2), -1);
        Check.same("what -1", x.whole(0, 1, -1), -1);
        RansomHymn y = Check.told("voice a 1 9 boy;law crack 1;seed 1;");
        Check.same("99 to the 9", y.whole(0, 9, 0), 913517247483640899L);
        Check.same("100 to the 9", y.whole(0, 9, 1), 1000000000000000000L);
        RansomHymn z = Check.told("voice a 1 9 boy;law crack 100;");
        Check.same("no chance", z.whole(0, 5, 0), 0);
        Check.same("no chance", z.whole(0, 5, 1), 1);
        Check.same("today he is whole", z.whole(0, 0, 0), 1);
        z.sunday();
        Check.same("cracked", z.whole(0, 0, 0), 0);
        Check.same("cracked", z.whole(0, 0, 1), 1);
    }

    private static void images() {
        RansomHymn x = Check.told("tavern t 0 5;voice a 1 9 boy pawn t 2;voice b 1 9;verse v part 0 1 part 1;"
                + "verse w part 1;baker p 9 5;baker q 9 3;purse 20;seed 7;law crack 70;");
        Check.same("none is kept", x.back(), -1);
        x.redeem(0, 0, 0);
        x.easter(1);
        Check.same("keep", x.keep(), 0);
        x.redeem(1, 0, 1);
        x.undo();
        x.undo();
        x.easter(3);
        x.redeem(0, 1, 0);
        x.sunday();
        x.sunday();
        x.pay(0);
        Check.same("back", x.back(), 0);
        Check.same("week", x.count(5), 0);
        Check.same("purse", x.count(6), 21);
        Check.same("till", x.tavern(0, 1), 7);
        Check.same("who sings", x.sings(0, 0), 0);
        Check.same("who doesn't", x.sings(0, 1), -2);
        Check.same("nobody", x.sings(1, 0), -2);
        Check.same("redeemed", x.count(7), 1);
        Check.same("cracked", x.count(10), 0);
        Check.same("p has paid", x.bids(0, 0), 5);
        Check.same("coin", x.count(11), 43);
        Check.same("heard", x.sunday(), 1);
        Check.same("64 is below 70 once more", x.look(0, 5), 2);
        Check.same("claim", x.look(0, 4), 1);
        Check.same("pay", x.pay(0), 1);
        Check.same("keep in place of it", x.keep(), 1);
        x.sunday();
        Check.same("back to that", x.back(), 1);
        Check.same("what runs paid", x.count(11), 43);
        Check.same("cracked as kept", x.count(10), 1);
        x.sunday();
        Check.same("the image is still there", x.back(), 1);
        Check.tell(x, "tavern t 0 5;voice a 1 9 pawn t 2;verse v part 0 1;purse 20;");
        x.redeem(0, 0, 0);
        x.keep();
        x.sunday();
        x.back();
        Check.same("what can be undone is kept, too", x.undo(), 0);
        Check.same("paid back", x.count(6), 20);
        Check.same("paid back", x.tavern(0, 1), 5);
    }

    private static void imagesAndHums() {
        RansomHymn x = Check.told("voice a 1 9;voice b 1 30;");
        x.hum(5);
        x.keep();
        x.hum(20);
        x.known(1);
        x.back();
        Check.same("what was hummed stays", x.count(8), 2);
        Check.same("known by all, as in the image", x.count(9), 2);
        Check.same("b", x.thieves(), 2);
        x.known(1);
        x.keep();
        x.known(-1);
        x.strike(1);
        x.back();
        Check.same("known by 1", x.count(9), 1);
        Check.same("hummed", x.count(8), 3);
        Check.same("the tape is no part of it", x.feed(0, 0, 0, 0, 0), 20);
        x.back();
        Check.same("the tape is no part of it", x.feed(0, 0, 0, 0, 0), 40);
    }

    private static void counts() {
        RansomHymn x = Check.told("tavern t 0 5;voice a 1 9 boy pawn t 2;voice b 1 9 boy;verse v part 1;verse w part 1;"
                + "baker p 9 5;purse 20;law crack 100;");
        x.redeem(0, 0, 0);
        x.redeem(1, 0, 0);
        x.hum(4);
        x.hum(4);
        x.known(1);
        int[] want = {1, 2, 2, 1, 2, 0, 16, 2, 2, 1, 0, 34};
        for (int what = 0; what < want.length; what++) {
            Check.same("count(" + what + ")", x.count(what), want[what]);
        }
        x.sunday();
        Check.same("week", x.count(5), 1);
        Check.same("redeemed", x.count(7), 0);
        Check.same("cracked", x.count(10), 2);
        Check.same("count(12)", x.count(12), -1);
        Check.same("count(-1)", x.count(-1), -1);
        Check.same("NONE", RansomHymn.NONE, -1);
    }
}
