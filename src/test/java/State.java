import java.util.function.Consumer;
import java.util.function.ToLongFunction;

/** All that can be asked of an object, so that it can be set beside another one. */
final class State {
    /** A text with some of all: two pawned, two boys, one of them free, rests, bids and laws that the week changes. */
    static final String FULL = "tavern t 3 5;tavern u 2 9;voice a 1 20 boy pawn t 3;voice b 5 30 pawn u 4;voice c 9 40 boy;"
            + "voice d 1 40 pawn t 5 odds 4;verse v part 5 0 7 part 9 0 12 part 0 30;verse w part 0 0 6;baker p 30 notes*3;"
            + "baker q 40 high-week;purse 30;seed 11;law due debt+week;law crack 20+week;";

    private State() {
    }

    static RansomHymn full() {
        return Check.told(FULL);
    }

    /** Some of each kind of what can change: who is redeemed, claims, hums, an image, a week behind, c cracked. */
    static void stir(RansomHymn x) {
        x.redeem(0, 0, 0);
        x.redeem(0, 1, 3);
        x.easter(1);
        x.sunday();
        x.hum(9);
        x.hum(30);
        x.strike(1);
        x.redeem(1, 0, 1);
        x.keep();
        x.redeem(0, 2, 1);
        x.redeem(0, 1, 3);
        Check.same("stirred: redeemed", x.count(7), 3);
        Check.same("stirred: cracked", x.look(2, 5), 2);
        Check.same("stirred: claims", x.tavern(0, 2), 2);
    }

    static String of(RansomHymn x) {
        StringBuilder all = new StringBuilder("counts");
        for (int what = 0; what <= 11; what++) {
            add(all, x.count(what));
        }
        all.append("; taverns");
        for (int tavern = 0; tavern < x.count(0); tavern++) {
            for (int what = 0; what <= 2; what++) {
                add(all, x.tavern(tavern, what));
            }
            for (int voice = -1; voice < x.count(1); voice++) {
                add(all, x.run(tavern, voice));
            }
        }
        all.append("; voices").append(' ').append(x.thieves()).append(' ').append(x.gang());
        for (int voice = 0; voice < x.count(1); voice++) {
            addVoice(all, x, voice);
        }
        all.append("; verses");
        for (int verse = 0; verse < x.count(2); verse++) {
            addVerse(all, x, verse);
        }
        return all.toString();
    }

    private static void add(StringBuilder all, long answer) {
        all.append(' ').append(answer);
    }

    private static void addVoice(StringBuilder all, RansomHymn x, int voice) {
        for (int what = 0; what <= 5; what++) {
            add(all, x.look(voice, what));
        }
        add(all, x.cracks(voice));
        for (int what = 0; what <= 1; what++) {
            add(all, x.odds(voice, what));
            add(all, x.whole(voice, 1, what));
            add(all, x.whole(voice, 3, what));
        }
    }

    private static void addVerse(StringBuilder all, RansomHymn x, int verse) {
        int verses = (1 << x.count(2)) - 1;
        add(all, x.sold(verses, verse, 0));
        add(all, x.sold(verses, verse, 1));
        for (int baker = 0; baker < x.count(3); baker++) {
            add(all, x.bids(baker, verse));
        }
        for (int bar = 0; bar < 8; bar++) {
            add(all, x.bar(verse, bar));
        }
        add(all, x.best(9, 0));
        add(all, x.best(9, 1));
        add(all, x.verse(verse, 0));
        for (int part = 0; part < x.verse(verse, 0); part++) {
            add(all, x.sings(verse, part));
            add(all, x.chosen(9, verse, part));
            add(all, x.round(verse, part, 2, 1));
            add(all, x.entry(verse, part, 2, 1, 0));
            for (int bar = 0; bar < x.verse(verse, part + 1); bar++) {
                add(all, x.pitch(verse, part, bar));
            }
            for (int voice = 0; voice < x.count(1); voice++) {
                add(all, x.due(verse, part, voice));
                add(all, x.sounds(verse, part, voice));
            }
        }
    }

    static void same(String what, RansomHymn got, RansomHymn want) {
        String gotState = of(got);
        String wantState = of(want);
        Check.isTrue(what + ": " + gotState + " is as " + wantState, gotState.equals(wantState));
    }

    /** Also what no call shows at once: what can be undone, numbers to come, the image, the tape. */
    static void sameFromNowOn(String what, RansomHymn got, RansomHymn want) {
        same(what, got, want);
        for (int i = 0; i < 3; i++) {
            Check.same(what + ", undo", got.undo(), want.undo());
        }
        same(what + ", undone", got, want);
        for (int i = 0; i < 3; i++) {
            Check.same(what + ", sunday", got.sunday(), want.sunday());
        }
        same(what + ", three weeks on", got, want);
        Check.same(what + ", back", got.back(), want.back());
        same(what + ", gone back", got, want);
        Check.same(what + ", undo of the image", got.undo(), want.undo());
        got.sunday();
        want.sunday();
        same(what + ", a week on", got, want);
        Check.same(what + ", tape", got.feed(0, 0, 0, 0, 0), want.feed(0, 0, 0, 0, 0));
    }

    /** A call that is refused, or that only asks: its answer, and that all is as if it hadn't come. */
    static void asks(String what, ToLongFunction<RansomHymn> call, long answer) {
        asksOf(what, State::stir, call, answer);
    }

    static void asksOf(String what, Consumer<RansomHymn> ahead, ToLongFunction<RansomHymn> call, long answer) {
        RansomHymn x = full();
        RansomHymn y = full();
        ahead.accept(x);
        ahead.accept(y);
        Check.same(what, call.applyAsLong(x), answer);
        sameFromNowOn("all behind " + what, x, y);
    }
}
