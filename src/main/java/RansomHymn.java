import java.util.Arrays;
import java.util.NoSuchElementException;

/** Hymn by ransom: the promises of DOC.md, whose words in capitals the comments here use. */
public final class RansomHymn {
    public static final int NONE = -1;

    /** The document's second refusal: nobody, not enough, not so many. */
    private static final int NOT_SO = -2;

    private static final int MOST_BYTES = 800;
    private static final int FEED_BYTES = 20;
    private static final int MOST_TAVERNS = 3;
    private static final int MOST_VOICES = 6;
    private static final int MOST_VERSES = 4;
    private static final int MOST_PARTS = 3;
    private static final int MOST_BARS = 8;
    private static final int MOST_BAKERS = 3;
    private static final int MOST_KNOTS = 64;
    private static final int MOST_OPEN = 8;
    private static final int MOST_HUMMED = 24;
    private static final int MOST_ROUND = 4;
    private static final int MOST_SUNDAYS = 9;
    private static final int MOST_PITCH = 40;
    private static final int MOST_CROWNS = 999;
    private static final int MOST_VALUE = 9999;
    private static final int MOST_SEED = 99999;
    private static final int BEYOND_ALL = 1000000;
    private static final int HUNDRED = 100;

    /** PARTS of all VERSES stand in one row: slot is verse times MOST_PARTS and part. */
    private static final int MOST_SLOTS = MOST_VERSES * MOST_PARTS;

    /** FAULTS. */
    private static final int ODD = 1;
    private static final int TOO_MUCH = 2;
    private static final int TOLD_ALREADY = 3;
    private static final int NOT_TOLD = 4;

    /** Kinds of TOKENS; those that an E is made of are kinds of KNOTS, too. */
    private static final int END = 0;
    private static final int BROKEN = 1;
    private static final int NUMBER = 2;
    private static final int NAME = 3;
    private static final int SEMICOLON = 4;
    private static final int OPEN = 5;
    private static final int CLOSE = 6;
    private static final int LESS = 7;
    private static final int LESS_EQUAL = 8;
    private static final int EQUAL = 9;
    private static final int UNLIKE = 10;
    private static final int GREATER_EQUAL = 11;
    private static final int GREATER = 12;
    private static final int PLUS = 13;
    private static final int MINUS = 14;
    private static final int TIMES = 15;
    private static final int BY = 16;

    /** The words of the language: their kinds follow in this order, from TAVERN on and from OR on. */
    private static final String LINE_WORDS = "tavern voice verse baker purse seed law boy pawn odds part due crack";
    private static final String FORMULA_WORDS = "or and not debt rate notes rests high week parts";
    private static final int TAVERN = 17;
    private static final int VOICE = 18;
    private static final int VERSE = 19;
    private static final int BAKER = 20;
    private static final int PURSE = 21;
    private static final int SEED = 22;
    private static final int LAW = 23;
    private static final int BOY = 24;
    private static final int PAWN = 25;
    private static final int ODDS = 26;
    private static final int PART = 27;
    private static final int DUE = 28;
    private static final int CRACK = 29;
    private static final int OR = 30;
    private static final int AND = 31;
    private static final int NOT = 32;
    private static final int DEBT = 33;
    private static final int RATE = 34;
    private static final int NOTES = 35;
    private static final int RESTS = 36;
    private static final int HIGH = 37;
    private static final int WEEK = 38;
    private static final int PARTS = 39;
    private static final int WORD_COUNT = PARTS - TAVERN + 1;
    private static final int NAME_COUNT = PARTS - DEBT + 1;

    /** How tightly signs bind; 0 is for what is no sign between or ahead of values. */
    private static final int OR_LEVEL = 1;
    private static final int AND_LEVEL = 2;
    private static final int NOT_LEVEL = 3;
    private static final int COMPARE_LEVEL = 4;
    private static final int SUM_LEVEL = 5;
    private static final int TIMES_LEVEL = 6;

    /** Where the E of each law and BAKER stands among the formulas. */
    private static final int DUE_LAW = 0;
    private static final int CRACK_LAW = 1;
    private static final int FIRST_BID = 2;
    private static final int FORMULA_COUNT = FIRST_BID + MOST_BAKERS;

    private final byte[] tape = new byte[MOST_BYTES];
    private final Hymn hymn = new Hymn();
    private final Hymn draft = new Hymn();
    private final Teller teller = new Teller(new Tokens(tape), draft);
    private final World now = new World();
    private final World image = new World();
    private final Hums hums = new Hums();
    private final Laws laws = new Laws(hymn, now);
    private final Choice choice = new Choice(hymn, now, laws);
    private final Sale sale = new Sale(hymn, now, laws);
    private final Canon canon = new Canon(hymn, now, laws);
    private int taped = 0;
    private int faultKind = 0;
    private int faultPlace = NONE;
    private boolean kept = false;

    public RansomHymn() {
        now.begin(hymn);
    }

    public int feed(int a, int b, int c, int d, int e) {
        if (taped + FEED_BYTES > MOST_BYTES) {
            return NONE;
        }
        tapeNumber(a);
        tapeNumber(b);
        tapeNumber(c);
        tapeNumber(d);
        tapeNumber(e);
        return taped;
    }

    public int text(int n) {
        if (n < 0 || n > taped) {
            return NOT_SO;
        }
        int lines = teller.tell(n);
        taped = 0;
        faultKind = teller.tokens.faultKind;
        faultPlace = teller.tokens.faultPlace;
        if (faultKind != 0) {
            return NONE;
        }
        hymn.take(draft);
        now.begin(hymn);
        hums.size = 0;
        kept = false;
        choice.weighed = false;
        return lines;
    }

    public int fault(int what) {
        switch (what) {
            case 0:
                return faultKind;
            case 1:
                return faultPlace;
            default:
                return NONE;
        }
    }

    public int named(int what, int letters) {
        switch (what) {
            case 0:
                return hymn.taverns.find(letters);
            case 1:
                return hymn.voices.find(letters);
            case 2:
                return hymn.verses.find(letters);
            case 3:
                return hymn.bakers.find(letters);
            default:
                return NONE;
        }
    }

    public int look(int voice, int what) throws IndexOutOfBoundsException, NoSuchElementException {
        if (!hymn.voices.holds(voice)) {
            throw new IndexOutOfBoundsException("no such voice");
        }
        switch (what) {
            case 0:
                return hymn.lows[voice];
            case 1:
                return hymn.highs[voice];
            case 2:
                return hymn.homes[voice];
            case 3:
                return hymn.debts[voice];
            case 4:
                return now.claims[voice];
            case 5:
                return now.isCracked(voice) ? 2 : hymn.isBoy(voice) ? 1 : 0;
            default:
                throw new NoSuchElementException("no such what");
        }
    }

    public int tavern(int tavern, int what) {
        if (!hymn.taverns.holds(tavern)) {
            return NONE;
        }
        switch (what) {
            case 0:
                return hymn.rates[tavern];
            case 1:
                return now.tills[tavern];
            case 2:
                return claimsOn(tavern);
            default:
                return NONE;
        }
    }

    public int verse(int verse, int what) {
        if (!hymn.verses.holds(verse)) {
            return NONE;
        }
        if (what == 0) {
            return hymn.partsOf[verse];
        }
        if (what < 0 || !hymn.hasPart(verse, what - 1)) {
            return NONE;
        }
        return hymn.barsOf[slotOf(verse, what - 1)];
    }

    public int pitch(int verse, int part, int bar) {
        if (!hymn.hasPart(verse, part)) {
            return NONE;
        }
        int slot = slotOf(verse, part);
        return bar >= 0 && bar < hymn.barsOf[slot] ? hymn.pitchAt(slot, bar) : NONE;
    }

    public int due(int verse, int part, int voice) {
        return hymn.hasPart(verse, part) && hymn.voices.holds(voice) ? laws.dueFor(verse, part, voice) : NONE;
    }

    public int sounds(int verse, int part, int voice) {
        if (!hymn.hasPart(verse, part) || !hymn.voices.holds(voice)) {
            return NONE;
        }
        return Integer.bitCount(laws.soundBits(slotOf(verse, part), voice));
    }

    public int bids(int baker, int verse) {
        if (!hymn.bakers.holds(baker) || !hymn.verses.holds(verse)) {
            return NONE;
        }
        return laws.bidFor(baker, verse, now.bakerPurses[baker]);
    }

    public int cracks(int voice) {
        return hymn.voices.holds(voice) ? laws.crackFor(voice, now.week) : NONE;
    }

    public int redeem(int verse, int part, int voice) {
        if (!hymn.hasPart(verse, part) || !hymn.voices.holds(voice) || now.isCracked(voice)) {
            return NONE;
        }
        int slot = slotOf(verse, part);
        if (now.singers[slot] != NONE || singsIn(verse, voice)) {
            return NONE;
        }
        int crowns = laws.dueFor(verse, part, voice);
        if (crowns > now.purse) {
            return NOT_SO;
        }
        now.enlist(slot, voice, crowns, hymn.homes[voice]);
        return crowns;
    }

    public int undo() {
        if (now.redeemed == 0) {
            return NONE;
        }
        int voice = now.singers[now.slots[now.redeemed - 1]];
        int home = voice == NONE ? NONE : hymn.homes[voice];
        if (home != NONE && now.tills[home] < now.paid[now.redeemed - 1]) {
            return NOT_SO;
        }
        now.dismiss(home);
        return now.redeemed;
    }

    public int sings(int verse, int part) {
        if (!hymn.hasPart(verse, part)) {
            return NONE;
        }
        int voice = now.singers[slotOf(verse, part)];
        return voice == NONE ? NOT_SO : voice;
    }

    public int bar(int verse, int bar) {
        if (!hymn.verses.holds(verse) || bar < 0 || bar >= MOST_BARS) {
            return NONE;
        }
        int heard = 0;
        for (int part = 0; part < hymn.partsOf[verse]; part++) {
            int slot = slotOf(verse, part);
            int voice = now.singers[slot];
            if (voice != NONE && (laws.soundBits(slot, voice) >> bar & 1) != 0) {
                heard |= 1 << part;
            }
        }
        return heard;
    }

    public int sunday() {
        int heard = 0;
        for (int i = 0; i < now.redeemed; i++) {
            heard += singPart(now.slots[i]);
        }
        now.dismissAll();
        crackBoys();
        now.week++;
        choice.weighed = false;
        return heard;
    }

    public int best(int crowns, int what) {
        if (crowns < 0 || crowns > MOST_CROWNS || what < 0 || what > 1) {
            return NONE;
        }
        choice.weigh();
        int notes = choice.mostNotes(crowns);
        return what == 0 ? notes : choice.crownsFor(notes);
    }

    public int chosen(int crowns, int verse, int part) {
        if (crowns < 0 || crowns > MOST_CROWNS || !hymn.hasPart(verse, part)) {
            return NONE;
        }
        choice.weigh();
        choice.choose(crowns);
        int voice = choice.singers[slotOf(verse, part)];
        return voice == NONE ? NOT_SO : voice;
    }

    public int sold(int verses, int verse, int what) {
        if (!hymn.hasVerses(verses) || !hymn.verses.holds(verse) || what < 0 || what > 1) {
            return NONE;
        }
        if ((verses >> verse & 1) == 0) {
            return NONE;
        }
        sale.hold(verses);
        if (what == 1) {
            return sale.prices[verse];
        }
        return sale.owners[verse] == NONE ? NOT_SO : sale.owners[verse];
    }

    public int easter(int verses) {
        if (!hymn.hasVerses(verses)) {
            return NONE;
        }
        int crowns = sale.hold(verses);
        for (int baker = 0; baker < hymn.bakers.size; baker++) {
            now.bakerPurses[baker] = sale.left[baker];
        }
        now.purse += crowns;
        return crowns;
    }

    public int hum(int pitch) {
        return pitch >= 1 && pitch <= MOST_PITCH ? hums.add(pitch) : NONE;
    }

    public int strike(int hummed) {
        return hummed >= 0 && hummed < hums.size ? hums.add(NONE - hummed) : NONE;
    }

    public boolean known(int n) {
        if (n < NONE || n > hums.size) {
            return false;
        }
        now.knownBy = n;
        return true;
    }

    public int thieves() {
        long pitches = hums.pitches(knownCount());
        int found = 0;
        for (int voice = 0; voice < hymn.voices.size; voice++) {
            if (!now.isCracked(voice) && (pitches & ~hymn.reach(voice)) == 0) {
                found |= 1 << voice;
            }
        }
        return found;
    }

    public int odds(int voice, int what) {
        if (!hymn.voices.holds(voice) || what < 0 || what > 1) {
            return NONE;
        }
        int suspects = thieves();
        if ((suspects >> voice & 1) == 0) {
            return what;
        }
        int sum = 0;
        for (int other = 0; other < hymn.voices.size; other++) {
            if ((suspects >> other & 1) != 0) {
                sum += hymn.chances[other];
            }
        }
        return (int) leastTerm(hymn.chances[voice], sum, what);
    }

    public int gang() {
        long pitches = hums.pitches(knownCount());
        int found = NOT_SO;
        int fewest = MOST_VOICES + 1;
        for (int voices = 0; voices < 1 << hymn.voices.size; voices++) {
            int many = Integer.bitCount(voices);
            if (many < fewest && (voices & now.cracked) == 0 && (pitches & ~reachOf(voices)) == 0) {
                fewest = many;
                found = voices;
            }
        }
        return found;
    }

    public int round(int verse, int part, int n, int d) {
        if (!isRound(verse, part, n, d)) {
            return NONE;
        }
        return canon.fewestGaps(slotOf(verse, part), n, d);
    }

    public int entry(int verse, int part, int n, int d, int k) {
        if (!isRound(verse, part, n, d) || k < 0 || k >= n) {
            return NONE;
        }
        int gaps = canon.fewestGaps(slotOf(verse, part), n, d);
        return gaps == NOT_SO ? NOT_SO : canon.bestRow[k];
    }

    public int run(int tavern, int voice) {
        if (!hymn.taverns.holds(tavern)) {
            return NONE;
        }
        if (voice != NONE && (!hymn.voices.holds(voice) || hymn.homes[voice] != tavern)) {
            return NONE;
        }
        return shareOf(tavern, voice);
    }

    public int pay(int tavern) {
        if (!hymn.taverns.holds(tavern)) {
            return NONE;
        }
        int sum = 0;
        for (int voice = 0; voice < hymn.voices.size; voice++) {
            if (hymn.homes[voice] == tavern) {
                int share = Math.min(now.claims[voice], now.tills[tavern]);
                now.claims[voice] -= share;
                now.tills[tavern] -= share;
                sum += share;
            }
        }
        now.paidOut += sum;
        return sum;
    }

    public long whole(int voice, int n, int what) {
        if (!hymn.voices.holds(voice) || n < 0 || n > MOST_SUNDAYS || what < 0 || what > 1) {
            return NONE;
        }
        if (now.isCracked(voice)) {
            return what;
        }
        if (!hymn.isBoy(voice)) {
            return 1;
        }
        long above = 1;
        long below = 1;
        for (int i = 0; i < n; i++) {
            above *= HUNDRED - laws.crackFor(voice, now.week + i);
            below *= HUNDRED;
        }
        return leastTerm(above, below, what);
    }

    public int keep() {
        image.take(now);
        kept = true;
        return now.week;
    }

    public int back() {
        if (!kept) {
            return NONE;
        }
        now.take(image);
        choice.weighed = false;
        return now.week;
    }

    public int count(int what) {
        switch (what) {
            case 0:
                return hymn.taverns.size;
            case 1:
                return hymn.voices.size;
            case 2:
                return hymn.verses.size;
            case 3:
                return hymn.bakers.size;
            case 4:
                return hymn.formulas.size;
            case 5:
                return now.week;
            case 6:
                return now.purse;
            case 7:
                return now.redeemed;
            case 8:
                return hums.size;
            case 9:
                return knownCount();
            case 10:
                return Integer.bitCount(now.cracked);
            case 11:
                return now.allCoin();
            default:
                return NONE;
        }
    }

    private static int slotOf(int verse, int part) {
        return verse * MOST_PARTS + part;
    }

    private void tapeNumber(int number) {
        for (int shift = 24; shift >= 0 && taped < MOST_BYTES; shift -= 8) {
            tape[taped] = (byte) (number >> shift);
            taped++;
        }
    }

    private int claimsOn(int tavern) {
        int sum = 0;
        for (int voice = 0; voice < hymn.voices.size; voice++) {
            if (hymn.homes[voice] == tavern) {
                sum += now.claims[voice];
            }
        }
        return sum;
    }

    private boolean singsIn(int verse, int voice) {
        for (int part = 0; part < hymn.partsOf[verse]; part++) {
            if (now.singers[slotOf(verse, part)] == voice) {
                return true;
            }
        }
        return false;
    }

    private int singPart(int slot) {
        int voice = now.singers[slot];
        if (voice == NONE) {
            return 0;
        }
        if (hymn.homes[voice] != NONE) {
            now.claims[voice] += hymn.restsIn(slot);
        }
        return Integer.bitCount(laws.soundBits(slot, voice));
    }

    private void crackBoys() {
        for (int voice = 0; voice < hymn.voices.size; voice++) {
            if (hymn.isBoy(voice) && !now.isCracked(voice)) {
                // The number is drawn even where no law can crack him: the document gives each BOY one.
                int number = now.nextNumber() % HUNDRED;
                if (number < laws.crackFor(voice, now.week)) {
                    now.cracked |= 1 << voice;
                }
            }
        }
    }

    private int knownCount() {
        return now.knownBy == NONE ? hums.size : now.knownBy;
    }

    private long reachOf(int voices) {
        long reached = 0;
        for (int voice = 0; voice < hymn.voices.size; voice++) {
            if ((voices >> voice & 1) != 0) {
                reached |= hymn.reach(voice);
            }
        }
        return reached;
    }

    private boolean isRound(int verse, int part, int n, int d) {
        return hymn.hasPart(verse, part) && n >= 1 && n <= MOST_ROUND && d >= 1 && d <= MOST_BARS;
    }

    private int shareOf(int tavern, int voice) {
        int left = now.tills[tavern];
        int sum = 0;
        for (int other = 0; other < hymn.voices.size; other++) {
            if (hymn.homes[other] == tavern) {
                int share = Math.min(now.claims[other], left);
                if (other == voice) {
                    return share;
                }
                left -= share;
                sum += share;
            }
        }
        return sum;
    }

    private static long leastTerm(long above, long below, int what) {
        long divisor = below;
        long rest = above;
        for (int i = 0; i < 1000 && rest != 0; i++) {
            long next = divisor % rest;
            divisor = rest;
            rest = next;
        }
        long term = what == 0 ? above : below;
        return divisor == 0 ? term : term / divisor;
    }

    /** The names of one kind, packed as named() wants them, numbered as they come. */
    private static final class Roll {
        final int[] names;
        int size = 0;

        Roll(int most) {
            names = new int[most];
        }

        boolean isFull() {
            return size >= names.length;
        }

        boolean holds(int number) {
            return number >= 0 && number < size;
        }

        int find(int name) {
            for (int i = 0; i < size; i++) {
                if (names[i] == name) {
                    return i;
                }
            }
            return NONE;
        }

        int add(int name) {
            if (isFull()) {
                return NONE;
            }
            names[size] = name;
            size++;
            return size - 1;
        }

        void take(Roll other) {
            System.arraycopy(other.names, 0, names, 0, names.length);
            size = other.size;
        }
    }

    /** A TEXT as it was told; what changes from call to call is the World's. */
    private static final class Hymn {
        final Roll taverns = new Roll(MOST_TAVERNS);
        final Roll voices = new Roll(MOST_VOICES);
        final Roll verses = new Roll(MOST_VERSES);
        final Roll bakers = new Roll(MOST_BAKERS);
        final int[] rates = new int[MOST_TAVERNS];
        final int[] tills = new int[MOST_TAVERNS];
        final int[] lows = new int[MOST_VOICES];
        final int[] highs = new int[MOST_VOICES];
        final int[] homes = new int[MOST_VOICES];
        final int[] debts = new int[MOST_VOICES];
        final int[] chances = new int[MOST_VOICES];
        final int[] partsOf = new int[MOST_VERSES];
        final int[] barsOf = new int[MOST_SLOTS];
        final int[] pitches = new int[MOST_SLOTS * MOST_BARS];
        final int[] bakerPurses = new int[MOST_BAKERS];
        final Formulas formulas = new Formulas();
        int boys = 0;
        int purse = 0;
        int seed = 0;

        void clear() {
            taverns.size = 0;
            voices.size = 0;
            verses.size = 0;
            bakers.size = 0;
            formulas.clear();
            boys = 0;
            purse = 0;
            seed = 0;
        }

        void take(Hymn other) {
            taverns.take(other.taverns);
            voices.take(other.voices);
            verses.take(other.verses);
            bakers.take(other.bakers);
            System.arraycopy(other.rates, 0, rates, 0, rates.length);
            System.arraycopy(other.tills, 0, tills, 0, tills.length);
            System.arraycopy(other.lows, 0, lows, 0, lows.length);
            System.arraycopy(other.highs, 0, highs, 0, highs.length);
            System.arraycopy(other.homes, 0, homes, 0, homes.length);
            System.arraycopy(other.debts, 0, debts, 0, debts.length);
            System.arraycopy(other.chances, 0, chances, 0, chances.length);
            System.arraycopy(other.partsOf, 0, partsOf, 0, partsOf.length);
            System.arraycopy(other.barsOf, 0, barsOf, 0, barsOf.length);
            System.arraycopy(other.pitches, 0, pitches, 0, pitches.length);
            System.arraycopy(other.bakerPurses, 0, bakerPurses, 0, bakerPurses.length);
            formulas.take(other.formulas);
            boys = other.boys;
            purse = other.purse;
            seed = other.seed;
        }

        boolean hasPart(int verse, int part) {
            return verses.holds(verse) && part >= 0 && part < partsOf[verse];
        }

        boolean hasVerses(int bits) {
            return bits >= 0 && bits < 1 << verses.size;
        }

        boolean isBoy(int voice) {
            return (boys >> voice & 1) != 0;
        }

        int pitchAt(int slot, int bar) {
            return pitches[slot * MOST_BARS + bar];
        }

        int restsIn(int slot) {
            int rests = 0;
            for (int bar = 0; bar < barsOf[slot]; bar++) {
                if (pitchAt(slot, bar) == 0) {
                    rests++;
                }
            }
            return rests;
        }

        int highestIn(int slot) {
            int highest = 0;
            for (int bar = 0; bar < barsOf[slot]; bar++) {
                highest = Math.max(highest, pitchAt(slot, bar));
            }
            return highest;
        }

        /** The pitches of a VOICE as bits. */
        long reach(int voice) {
            return (2L << highs[voice]) - (1L << lows[voice]);
        }

        /** The bars of a PART that a VOICE reaches, as bits; a rest is below every VOICE. */
        int reachedBars(int slot, int voice) {
            int reached = 0;
            for (int bar = 0; bar < barsOf[slot]; bar++) {
                int pitch = pitchAt(slot, bar);
                if (pitch >= lows[voice] && pitch <= highs[voice]) {
                    reached |= 1 << bar;
                }
            }
            return reached;
        }
    }

    /** All E of a TEXT: their KNOTS stand behind one another, signs behind what they work on. */
    private static final class Formulas {
        final int[] kinds = new int[MOST_KNOTS];
        final int[] values = new int[MOST_KNOTS];
        final int[] from = new int[FORMULA_COUNT];
        final int[] to = new int[FORMULA_COUNT];
        int size = 0;
        /** Signs and '(' that have been read but whose right side is still open. */
        private final int[] waiting = new int[MOST_KNOTS + MOST_OPEN];
        private int depth = 0;
        private int open = 0;
        private int knots = 0;
        private boolean wantsValue = true;

        void clear() {
            size = 0;
            knots = 0;
            Arrays.fill(from, 0);
            Arrays.fill(to, 0);
        }

        void take(Formulas other) {
            System.arraycopy(other.kinds, 0, kinds, 0, kinds.length);
            System.arraycopy(other.values, 0, values, 0, values.length);
            System.arraycopy(other.from, 0, from, 0, from.length);
            System.arraycopy(other.to, 0, to, 0, to.length);
            size = other.size;
        }

        boolean isTold(int formula) {
            return to[formula] > from[formula];
        }

        void tell(int formula, Tokens tokens) {
            from[formula] = size;
            depth = 0;
            open = 0;
            wantsValue = true;
            boolean more = true;
            for (int i = 0; i <= MOST_BYTES && more; i++) {
                more = wantsValue ? readValue(tokens) : readSign(tokens);
                if (more) {
                    tokens.next();
                }
            }
            settle(OR_LEVEL);
            to[formula] = size;
        }

        private boolean readValue(Tokens tokens) {
            int kind = tokens.kind;
            if (kind == OPEN) {
                return open < MOST_OPEN ? hold(kind) : tokens.fail(TOO_MUCH);
            }
            if (kind == NOT && topLevel() <= NOT_LEVEL) {
                return isRoom(tokens) && hold(kind);
            }
            if (kind != NUMBER && (kind < DEBT || kind > PARTS)) {
                return tokens.fail(ODD);
            }
            if (tokens.value > MOST_VALUE && kind == NUMBER) {
                return tokens.fail(TOO_MUCH);
            }
            wantsValue = false;
            return isRoom(tokens) && put(kind, tokens.value);
        }

        /** False also where no sign comes any more: then E ends ahead of what stands there. */
        private boolean readSign(Tokens tokens) {
            int kind = tokens.kind;
            if (kind == CLOSE && open > 0) {
                settle(OR_LEVEL);
                depth--;
                open--;
                return true;
            }
            int level = levelOf(kind);
            if (level == 0 || level == NOT_LEVEL) {
                return open > 0 && tokens.fail(ODD);
            }
            settle(level == COMPARE_LEVEL ? SUM_LEVEL : level);
            if (level == COMPARE_LEVEL && topLevel() == COMPARE_LEVEL) {
                return tokens.fail(ODD);
            }
            wantsValue = true;
            return isRoom(tokens) && hold(kind);
        }

        private boolean isRoom(Tokens tokens) {
            if (knots >= MOST_KNOTS) {
                return tokens.fail(TOO_MUCH);
            }
            knots++;
            return true;
        }

        private boolean hold(int kind) {
            if (depth < waiting.length) {
                waiting[depth] = kind;
                depth++;
            }
            if (kind == OPEN) {
                open++;
            }
            return true;
        }

        private int topLevel() {
            return depth == 0 ? 0 : levelOf(waiting[depth - 1]);
        }

        /** What binds at least so tightly has its right side now; an open '(' holds back all below it. */
        private void settle(int level) {
            for (int i = depth - 1; i >= 0 && levelOf(waiting[i]) >= level; i--) {
                put(waiting[i], 0);
                depth = i;
            }
        }

        private boolean put(int kind, int value) {
            if (size < MOST_KNOTS) {
                kinds[size] = kind;
                values[size] = value;
                size++;
            }
            return true;
        }

        private static int levelOf(int kind) {
            switch (kind) {
                case OR:
                    return OR_LEVEL;
                case AND:
                    return AND_LEVEL;
                case NOT:
                    return NOT_LEVEL;
                case PLUS:
                case MINUS:
                    return SUM_LEVEL;
                case TIMES:
                case BY:
                    return TIMES_LEVEL;
                default:
                    return kind >= LESS && kind <= GREATER ? COMPARE_LEVEL : 0;
            }
        }
    }

    /** The TOKEN of the TAPE that is read now; behind a FAULT there are no more. */
    private static final class Tokens {
        private static final int FIRST_SHIFT = 25;
        private static final int LETTER_BITS = 5;
        private final byte[] bytes;
        private final int[] words = new int[WORD_COUNT];
        private int end = 0;
        private int at = 0;
        int kind = END;
        int place = 0;
        int value = 0;
        int faultKind = 0;
        int faultPlace = NONE;

        Tokens(byte[] bytes) {
            this.bytes = bytes;
            packWords(LINE_WORDS, 0);
            packWords(FORMULA_WORDS, OR - TAVERN);
        }

        private void packWords(String text, int first) {
            int word = first;
            int shift = FIRST_SHIFT;
            for (int i = 0; i < text.length() && word < WORD_COUNT; i++) {
                char sign = text.charAt(i);
                if (sign == ' ') {
                    word++;
                    shift = FIRST_SHIFT;
                } else {
                    words[word] |= (sign - 'a' + 1) << shift;
                    shift -= LETTER_BITS;
                }
            }
        }

        void start(int n) {
            end = Math.min(n, bytes.length);
            at = 0;
            faultKind = 0;
            faultPlace = NONE;
            next();
        }

        /** Always false, so that a reader can end with it. */
        boolean fail(int fault) {
            if (faultKind == 0) {
                faultKind = fault;
                faultPlace = place;
            }
            kind = END;
            return false;
        }

        void next() {
            if (faultKind != 0) {
                return;
            }
            while (at < end && (bytes[at] == 10 || bytes[at] == 32)) {
                at++;
            }
            place = at;
            value = 0;
            if (at >= end) {
                kind = END;
            } else if (isLetter(bytes[at])) {
                readWord();
            } else if (isDigit(bytes[at])) {
                readNumber();
            } else {
                readSign();
            }
        }

        private static boolean isLetter(int sign) {
            return sign >= 'a' && sign <= 'z';
        }

        private static boolean isDigit(int sign) {
            return sign >= '0' && sign <= '9';
        }

        private void readWord() {
            int shift = FIRST_SHIFT;
            while (at < end && isLetter(bytes[at])) {
                if (shift >= 0) {
                    value |= (bytes[at] - 'a' + 1) << shift;
                }
                shift -= LETTER_BITS;
                at++;
            }
            kind = shift >= -LETTER_BITS ? NAME : BROKEN;
            for (int i = 0; i < WORD_COUNT && kind == NAME; i++) {
                if (words[i] == value) {
                    kind = TAVERN + i;
                }
            }
        }

        private void readNumber() {
            while (at < end && isDigit(bytes[at])) {
                // All bounds are below it, so what is beyond needs no telling apart.
                value = Math.min(value * 10 + bytes[at] - '0', BEYOND_ALL);
                at++;
            }
            kind = NUMBER;
        }

        private void readSign() {
            int behind = at + 1 < end ? bytes[at + 1] : 0;
            kind = signKind(bytes[at], behind);
            boolean isPair = kind == LESS_EQUAL || kind == UNLIKE || kind == GREATER_EQUAL;
            at += isPair ? 2 : 1;
        }

        private static int signKind(int sign, int behind) {
            switch (sign) {
                case ';':
                    return SEMICOLON;
                case '(':
                    return OPEN;
                case ')':
                    return CLOSE;
                case '<':
                    return behind == '=' ? LESS_EQUAL : behind == '>' ? UNLIKE : LESS;
                case '=':
                    return EQUAL;
                case '>':
                    return behind == '=' ? GREATER_EQUAL : GREATER;
                case '+':
                    return PLUS;
                case '-':
                    return MINUS;
                case '*':
                    return TIMES;
                case '/':
                    return BY;
                default:
                    return BROKEN;
            }
        }
    }

    /** Reads a TEXT, LINE by LINE, into a draft that a FAULT leaves half told. */
    private static final class Teller {
        final Tokens tokens;
        private final Hymn hymn;
        private boolean purseTold = false;
        private boolean seedTold = false;

        Teller(Tokens tokens, Hymn draft) {
            this.tokens = tokens;
            this.hymn = draft;
        }

        int tell(int n) {
            hymn.clear();
            purseTold = false;
            seedTold = false;
            tokens.start(n);
            int lines = 0;
            for (int i = 0; i <= MOST_BYTES && tokens.kind != END; i++) {
                switch (tokens.kind) {
                    case TAVERN:
                        readTavern();
                        break;
                    case VOICE:
                        readVoice();
                        break;
                    case VERSE:
                        readVerse();
                        break;
                    case BAKER:
                        readBaker();
                        break;
                    case PURSE:
                        hymn.purse = loneNumber(purseTold, MOST_CROWNS);
                        purseTold = true;
                        break;
                    case SEED:
                        hymn.seed = loneNumber(seedTold, MOST_SEED);
                        seedTold = true;
                        break;
                    case LAW:
                        readLaw();
                        break;
                    default:
                        tokens.fail(ODD);
                }
                if (skips(SEMICOLON)) {
                    lines++;
                } else {
                    tokens.fail(ODD);
                }
            }
            return lines;
        }

        private void readTavern() {
            int tavern = begin(hymn.taverns);
            if (tavern == NONE) {
                return;
            }
            hymn.rates[tavern] = number(0, 99);
            hymn.tills[tavern] = number(0, MOST_VALUE);
        }

        private void readVoice() {
            int voice = begin(hymn.voices);
            if (voice == NONE) {
                return;
            }
            hymn.lows[voice] = number(1, MOST_PITCH);
            hymn.highs[voice] = number(hymn.lows[voice], MOST_PITCH);
            hymn.homes[voice] = NONE;
            hymn.debts[voice] = 0;
            hymn.chances[voice] = 1;
            if (skips(BOY)) {
                hymn.boys |= 1 << voice;
            }
            if (skips(PAWN)) {
                hymn.homes[voice] = toldTavern();
                hymn.debts[voice] = number(0, 99);
            }
            if (skips(ODDS)) {
                hymn.chances[voice] = number(1, 99);
            }
        }

        private void readVerse() {
            int verse = begin(hymn.verses);
            if (verse == NONE) {
                return;
            }
            int parts = 0;
            do {
                readPart(slotOf(verse, parts));
                parts++;
                if (parts == MOST_PARTS && tokens.kind == PART) {
                    tokens.fail(TOO_MUCH);
                }
            } while (parts < MOST_PARTS && tokens.kind == PART);
            hymn.partsOf[verse] = parts;
        }

        private void readPart(int slot) {
            if (!skips(PART)) {
                tokens.fail(ODD);
            }
            int bars = 0;
            do {
                hymn.pitches[slot * MOST_BARS + bars] = number(0, MOST_PITCH);
                bars++;
                if (bars == MOST_BARS && tokens.kind == NUMBER) {
                    tokens.fail(TOO_MUCH);
                }
            } while (bars < MOST_BARS && tokens.kind == NUMBER);
            hymn.barsOf[slot] = bars;
        }

        private void readBaker() {
            int baker = begin(hymn.bakers);
            if (baker == NONE) {
                return;
            }
            hymn.bakerPurses[baker] = number(0, MOST_CROWNS);
            hymn.formulas.tell(FIRST_BID + baker, tokens);
        }

        private int loneNumber(boolean told, int most) {
            if (told) {
                tokens.fail(TOLD_ALREADY);
                return 0;
            }
            tokens.next();
            return number(0, most);
        }

        private void readLaw() {
            tokens.next();
            if (tokens.kind != DUE && tokens.kind != CRACK) {
                tokens.fail(ODD);
                return;
            }
            int law = tokens.kind == DUE ? DUE_LAW : CRACK_LAW;
            if (hymn.formulas.isTold(law)) {
                tokens.fail(TOLD_ALREADY);
                return;
            }
            tokens.next();
            hymn.formulas.tell(law, tokens);
        }

        /** The word of a LINE and its W: the number of what is told, NONE with a FAULT. */
        private int begin(Roll roll) {
            if (roll.isFull()) {
                tokens.fail(TOO_MUCH);
                return NONE;
            }
            tokens.next();
            if (tokens.kind != NAME) {
                tokens.fail(ODD);
                return NONE;
            }
            if (roll.find(tokens.value) != NONE) {
                tokens.fail(TOLD_ALREADY);
                return NONE;
            }
            int number = roll.add(tokens.value);
            tokens.next();
            return number;
        }

        private int toldTavern() {
            if (tokens.kind != NAME) {
                tokens.fail(ODD);
                return NONE;
            }
            int tavern = hymn.taverns.find(tokens.value);
            if (tavern == NONE) {
                tokens.fail(NOT_TOLD);
            }
            tokens.next();
            return tavern;
        }

        private int number(int least, int most) {
            int value = tokens.value;
            if (tokens.kind != NUMBER) {
                tokens.fail(ODD);
                return least;
            }
            if (value < least || value > most) {
                tokens.fail(TOO_MUCH);
                return least;
            }
            tokens.next();
            return value;
        }

        private boolean skips(int kind) {
            if (tokens.kind != kind) {
                return false;
            }
            tokens.next();
            return true;
        }
    }

    /** All that changes from call to call and that an IMAGE keeps. */
    private static final class World {
        final int[] tills = new int[MOST_TAVERNS];
        final int[] claims = new int[MOST_VOICES];
        final int[] bakerPurses = new int[MOST_BAKERS];
        final int[] singers = new int[MOST_SLOTS];
        /** Who was REDEEMED this WEEK, the latest last: for which PART, for how much. */
        final int[] slots = new int[MOST_SLOTS];
        final int[] paid = new int[MOST_SLOTS];
        int redeemed = 0;
        int week = 0;
        int purse = 0;
        int paidOut = 0;
        int cracked = 0;
        int knownBy = NONE;
        private int random = 0;

        void begin(Hymn hymn) {
            Arrays.fill(tills, 0);
            Arrays.fill(bakerPurses, 0);
            Arrays.fill(claims, 0);
            System.arraycopy(hymn.tills, 0, tills, 0, hymn.taverns.size);
            System.arraycopy(hymn.bakerPurses, 0, bakerPurses, 0, hymn.bakers.size);
            dismissAll();
            week = 0;
            purse = hymn.purse;
            paidOut = 0;
            cracked = 0;
            knownBy = NONE;
            random = hymn.seed;
        }

        void take(World other) {
            System.arraycopy(other.tills, 0, tills, 0, tills.length);
            System.arraycopy(other.claims, 0, claims, 0, claims.length);
            System.arraycopy(other.bakerPurses, 0, bakerPurses, 0, bakerPurses.length);
            System.arraycopy(other.singers, 0, singers, 0, singers.length);
            System.arraycopy(other.slots, 0, slots, 0, slots.length);
            System.arraycopy(other.paid, 0, paid, 0, paid.length);
            redeemed = other.redeemed;
            week = other.week;
            purse = other.purse;
            paidOut = other.paidOut;
            cracked = other.cracked;
            knownBy = other.knownBy;
            random = other.random;
        }

        boolean isCracked(int voice) {
            return (cracked >> voice & 1) != 0;
        }

        void enlist(int slot, int voice, int crowns, int home) {
            if (redeemed >= MOST_SLOTS) {
                return;
            }
            singers[slot] = voice;
            slots[redeemed] = slot;
            paid[redeemed] = crowns;
            redeemed++;
            purse -= crowns;
            if (home != NONE) {
                tills[home] += crowns;
            }
        }

        void dismiss(int home) {
            if (redeemed == 0) {
                return;
            }
            redeemed--;
            singers[slots[redeemed]] = NONE;
            purse += paid[redeemed];
            if (home != NONE) {
                tills[home] -= paid[redeemed];
            }
        }

        void dismissAll() {
            redeemed = 0;
            Arrays.fill(singers, NONE);
        }

        int nextNumber() {
            random = (int) (random * 1103515245L + 12345L & 0x7fffffffL);
            return random / 65536;
        }

        int allCoin() {
            int sum = purse + paidOut;
            for (int till : tills) {
                sum += till;
            }
            for (int bakerPurse : bakerPurses) {
                sum += bakerPurse;
            }
            return sum;
        }
    }

    /** What was HUMMED: a pitch, or NONE less the number of the one that is STRUCK. */
    private static final class Hums {
        private final int[] hummed = new int[MOST_HUMMED];
        int size = 0;

        int add(int one) {
            if (size >= MOST_HUMMED) {
                return NONE;
            }
            hummed[size] = one;
            size++;
            return size - 1;
        }

        /** The KNOWN pitches as bits; a STRIKE is of an earlier one, so the last one is sure to count. */
        long pitches(int n) {
            int struck = 0;
            long found = 0;
            for (int i = Math.min(n, size) - 1; i >= 0; i--) {
                if ((struck >> i & 1) == 0) {
                    if (hummed[i] > 0) {
                        found |= 1L << hummed[i];
                    } else {
                        struck |= 1 << NONE - hummed[i];
                    }
                }
            }
            return found;
        }
    }

    /** Works out what the E of laws and BAKERS come to. */
    private static final class Laws {
        private static final long LIMIT = 1000000000000L;
        private final Hymn hymn;
        private final World now;
        private final long[] names = new long[NAME_COUNT];
        private final long[] stack = new long[MOST_KNOTS];
        private int top = 0;
        private boolean error = false;

        Laws(Hymn hymn, World now) {
            this.hymn = hymn;
            this.now = now;
        }

        int soundBits(int slot, int voice) {
            return now.isCracked(voice) ? 0 : hymn.reachedBars(slot, voice);
        }

        int dueFor(int verse, int part, int voice) {
            int home = hymn.homes[voice];
            if (home == NONE) {
                return 0;
            }
            int slot = slotOf(verse, part);
            int debt = hymn.debts[voice];
            int notes = Integer.bitCount(soundBits(slot, voice));
            setOwner(debt, hymn.rates[home], now.week);
            setMusic(notes, hymn.restsIn(slot), hymn.highestIn(slot), hymn.partsOf[verse]);
            return reckon(DUE_LAW, MOST_CROWNS, debt);
        }

        int crackFor(int voice, int week) {
            int home = hymn.homes[voice];
            setOwner(hymn.debts[voice], home == NONE ? 0 : hymn.rates[home], week);
            setMusic(0, 0, hymn.highs[voice], 0);
            return reckon(CRACK_LAW, HUNDRED, 0);
        }

        int bidFor(int baker, int verse, int purse) {
            int bars = 0;
            int rests = 0;
            int highest = 0;
            for (int part = 0; part < hymn.partsOf[verse]; part++) {
                int slot = slotOf(verse, part);
                bars += hymn.barsOf[slot];
                rests += hymn.restsIn(slot);
                highest = Math.max(highest, hymn.highestIn(slot));
            }
            setOwner(0, 0, now.week);
            setMusic(bars - rests, rests, highest, hymn.partsOf[verse]);
            return Math.min(purse, reckon(FIRST_BID + baker, MOST_CROWNS, 0));
        }

        private void setOwner(int debt, int rate, int week) {
            names[0] = debt;
            names[RATE - DEBT] = rate;
            names[WEEK - DEBT] = week;
        }

        private void setMusic(int notes, int rests, int high, int parts) {
            names[NOTES - DEBT] = notes;
            names[RESTS - DEBT] = rests;
            names[HIGH - DEBT] = high;
            names[PARTS - DEBT] = parts;
        }

        /** E, brought within 0 .. most; what it is otherwise without E or with an ERROR. */
        private int reckon(int formula, int most, int otherwise) {
            Formulas formulas = hymn.formulas;
            if (!formulas.isTold(formula)) {
                return otherwise;
            }
            top = 0;
            error = false;
            for (int i = formulas.from[formula]; i < formulas.to[formula] && !error; i++) {
                apply(formulas.kinds[i], formulas.values[i]);
            }
            if (error) {
                return otherwise;
            }
            return (int) Math.max(0, Math.min(most, pop()));
        }

        private void apply(int kind, int value) {
            if (kind == NUMBER) {
                push(value);
            } else if (kind >= DEBT && kind <= PARTS) {
                push(names[kind - DEBT]);
            } else if (kind == NOT) {
                push(pop() == 0 ? 1 : 0);
            } else {
                long right = pop();
                long left = pop();
                push(kind == TIMES || kind == BY ? scale(kind, left, right) : join(kind, left, right));
            }
        }

        private long scale(int kind, long left, long right) {
            if (kind == BY) {
                error |= right == 0;
                return right == 0 ? 0 : left / right;
            }
            // Asked ahead of the product, which may be beyond a long.
            if (left != 0 && Math.abs(right) > LIMIT / Math.abs(left)) {
                error = true;
                return 0;
            }
            return left * right;
        }

        private static long join(int kind, long left, long right) {
            switch (kind) {
                case PLUS:
                    return left + right;
                case MINUS:
                    return left - right;
                case AND:
                    return left != 0 && right != 0 ? 1 : 0;
                case OR:
                    return left != 0 || right != 0 ? 1 : 0;
                case LESS:
                    return left < right ? 1 : 0;
                case LESS_EQUAL:
                    return left <= right ? 1 : 0;
                case EQUAL:
                    return left == right ? 1 : 0;
                case UNLIKE:
                    return left != right ? 1 : 0;
                case GREATER_EQUAL:
                    return left >= right ? 1 : 0;
                default:
                    return left > right ? 1 : 0;
            }
        }

        private void push(long value) {
            error |= value > LIMIT || value < -LIMIT;
            if (top < stack.length) {
                stack[top] = value;
                top++;
            }
        }

        private long pop() {
            if (top == 0) {
                return 0;
            }
            top--;
            return stack[top];
        }
    }

    /** BEST. Notes are few and crowns many, so it asks how few crowns so many notes cost. */
    private static final class Choice {
        private static final int FAR = 1000000;
        private static final int VERSE_NOTES = MOST_PARTS * MOST_BARS;
        private static final int ALL_NOTES = MOST_VERSES * VERSE_NOTES;
        private final Hymn hymn;
        private final World now;
        private final Laws laws;
        private final int[] notes = new int[MOST_SLOTS * MOST_VOICES];
        private final int[] crowns = new int[MOST_SLOTS * MOST_VOICES];
        private final int[] verseCrowns = new int[VERSE_NOTES + 1];
        /** By VERSE and notes: the fewest crowns for just so many notes of it and those behind it. */
        private final int[][] restCrowns = new int[MOST_VERSES + 1][ALL_NOTES + 1];
        final int[] singers = new int[MOST_SLOTS];
        private int rowNotes = 0;
        private int rowCrowns = 0;
        boolean weighed = false;

        Choice(Hymn hymn, World now, Laws laws) {
            this.hymn = hymn;
            this.now = now;
            this.laws = laws;
        }

        int mostNotes(int most) {
            for (int many = ALL_NOTES; many > 0; many--) {
                if (restCrowns[0][many] <= most) {
                    return many;
                }
            }
            return 0;
        }

        int crownsFor(int many) {
            return restCrowns[0][many];
        }

        /** What it works out holds until DUE or who is CRACKED may be others. */
        void weigh() {
            if (weighed) {
                return;
            }
            weighed = true;
            int verses = hymn.verses.size;
            Arrays.fill(restCrowns[verses], FAR);
            restCrowns[verses][0] = 0;
            for (int verse = verses - 1; verse >= 0; verse--) {
                for (int part = 0; part < hymn.partsOf[verse]; part++) {
                    weighPart(verse, part);
                }
                weighRows(verse);
                joinRest(verse);
            }
        }

        void choose(int most) {
            int left = mostNotes(most);
            for (int verse = 0; verse < hymn.verses.size; verse++) {
                int rows = rowsOf(verse);
                boolean found = false;
                for (int row = 0; row < rows && !found; row++) {
                    found = fits(verse, row) && isBest(verse, left);
                }
                left -= rowNotes;
            }
        }

        private boolean isBest(int verse, int left) {
            return rowNotes <= left
                    && rowCrowns + restCrowns[verse + 1][left - rowNotes] == restCrowns[verse][left];
        }

        private void weighPart(int verse, int part) {
            int slot = slotOf(verse, part);
            for (int voice = 0; voice < hymn.voices.size; voice++) {
                notes[slot * MOST_VOICES + voice] = Integer.bitCount(laws.soundBits(slot, voice));
                crowns[slot * MOST_VOICES + voice] = laws.dueFor(verse, part, voice);
            }
        }

        private void weighRows(int verse) {
            Arrays.fill(verseCrowns, FAR);
            int rows = rowsOf(verse);
            for (int row = 0; row < rows; row++) {
                if (fits(verse, row) && rowCrowns < verseCrowns[rowNotes]) {
                    verseCrowns[rowNotes] = rowCrowns;
                }
            }
        }

        private void joinRest(int verse) {
            int[] joined = restCrowns[verse];
            int[] rest = restCrowns[verse + 1];
            Arrays.fill(joined, FAR);
            for (int here = 0; here <= VERSE_NOTES; here++) {
                for (int behind = 0; behind + here <= ALL_NOTES && verseCrowns[here] < FAR; behind++) {
                    joined[here + behind] = Math.min(joined[here + behind], verseCrowns[here] + rest[behind]);
                }
            }
        }

        /** Rows of a VERSE count the VOICES of its PARTS (none is the last one) like digits: first ones first. */
        private int rowsOf(int verse) {
            int rows = 1;
            for (int part = 0; part < hymn.partsOf[verse]; part++) {
                rows *= hymn.voices.size + 1;
            }
            return rows;
        }

        private boolean fits(int verse, int row) {
            int none = hymn.voices.size;
            int used = now.cracked;
            int digits = row;
            rowNotes = 0;
            rowCrowns = 0;
            for (int part = hymn.partsOf[verse] - 1; part >= 0; part--) {
                int slot = slotOf(verse, part);
                int voice = digits % (none + 1);
                digits /= none + 1;
                singers[slot] = NONE;
                if (voice < none) {
                    if ((used >> voice & 1) != 0) {
                        return false;
                    }
                    used |= 1 << voice;
                    singers[slot] = voice;
                    rowNotes += notes[slot * MOST_VOICES + voice];
                    rowCrowns += crowns[slot * MOST_VOICES + voice];
                }
            }
            return true;
        }
    }

    /** EASTER as it would be. */
    private static final class Sale {
        private final Hymn hymn;
        private final World now;
        private final Laws laws;
        final int[] owners = new int[MOST_VERSES];
        final int[] prices = new int[MOST_VERSES];
        final int[] left = new int[MOST_BAKERS];

        Sale(Hymn hymn, World now, Laws laws) {
            this.hymn = hymn;
            this.now = now;
            this.laws = laws;
        }

        int hold(int verses) {
            System.arraycopy(now.bakerPurses, 0, left, 0, left.length);
            int sum = 0;
            for (int verse = 0; verse < hymn.verses.size; verse++) {
                owners[verse] = NONE;
                prices[verse] = 0;
                if ((verses >> verse & 1) != 0) {
                    sellVerse(verse);
                    sum += prices[verse];
                }
            }
            return sum;
        }

        private void sellVerse(int verse) {
            int greatest = 0;
            int next = 0;
            int owner = NONE;
            for (int baker = 0; baker < hymn.bakers.size; baker++) {
                int bid = laws.bidFor(baker, verse, left[baker]);
                if (bid > greatest) {
                    next = greatest;
                    greatest = bid;
                    owner = baker;
                } else {
                    next = Math.max(next, bid);
                }
            }
            if (owner != NONE) {
                owners[verse] = owner;
                prices[verse] = next;
                left[owner] -= next;
            }
        }
    }

    /** ROUNDS. */
    private static final class Canon {
        private static final int FAR = 1000000;
        private final Hymn hymn;
        private final World now;
        private final Laws laws;
        private final int[] heardBars = new int[MOST_VOICES];
        private final int[] row = new int[MOST_ROUND];
        final int[] bestRow = new int[MOST_ROUND];
        private int many = 0;
        private int behind = 0;
        private int length = 0;
        private int fewest = FAR;

        Canon(Hymn hymn, World now, Laws laws) {
            this.hymn = hymn;
            this.now = now;
            this.laws = laws;
        }

        int fewestGaps(int slot, int n, int d) {
            if (hymn.voices.size - Integer.bitCount(now.cracked) < n) {
                return NOT_SO;
            }
            many = n;
            behind = d;
            length = hymn.barsOf[slot] + (n - 1) * d;
            fewest = FAR;
            for (int voice = 0; voice < hymn.voices.size; voice++) {
                heardBars[voice] = laws.soundBits(slot, voice);
            }
            fill(0, now.cracked, 0L);
            return fewest;
        }

        /** Rows come in the order of their numbers, so only fewer GAPS put another one ahead. */
        private void fill(int k, int used, long heard) {
            if (k >= many || k >= MOST_ROUND) {
                int gaps = length - Long.bitCount(heard);
                if (gaps < fewest) {
                    fewest = gaps;
                    System.arraycopy(row, 0, bestRow, 0, MOST_ROUND);
                }
                return;
            }
            for (int voice = 0; voice < hymn.voices.size; voice++) {
                if ((used >> voice & 1) == 0) {
                    row[k] = voice;
                    fill(k + 1, used | 1 << voice, heard | (long) heardBars[voice] << k * behind);
                }
            }
        }
    }
}
