import java.math.BigInteger;
import java.util.ArrayList;
import java.util.List;
import java.util.TreeMap;

/** The document once more, in the slowest and plainest way, so that ModelTest can set it beside the class. */
final class Model {
    static final class Fault extends RuntimeException {
        private static final long serialVersionUID = 1L;
        final int kind;
        final int place;

        Fault(int kind, int place) {
            this.kind = kind;
            this.place = place;
        }
    }

    static final class Wrong extends RuntimeException {
        private static final long serialVersionUID = 1L;
    }

    static final class Token {
        final String word;
        final int place;

        Token(String word, int place) {
            this.word = word;
            this.place = place;
        }
    }

    interface Formula {
        BigInteger value(TreeMap<String, Integer> names);
    }

    static final class Voice {
        String name;
        int low;
        int high;
        boolean boy;
        int home = -1;
        int debt;
        int odds = 1;
    }

    static final class Baker {
        String name;
        int purse;
        Formula bid;
    }

    static final class Verse {
        String name;
        final List<List<Integer>> parts = new ArrayList<>();
    }

    static final class Told {
        final List<String> taverns = new ArrayList<>();
        final List<Integer> rates = new ArrayList<>();
        final List<Integer> tills = new ArrayList<>();
        final List<Voice> voices = new ArrayList<>();
        final List<Verse> verses = new ArrayList<>();
        final List<Baker> bakers = new ArrayList<>();
        int purse = -1;
        int seed = -1;
        Formula due;
        Formula crack;
        int knots;
        int lines;
    }

    static final List<String> LANGUAGE = List.of("tavern", "voice", "boy", "pawn", "odds", "verse", "part", "baker",
            "purse", "seed", "law", "due", "crack", "or", "and", "not", "debt", "rate", "notes", "rests", "high",
            "week", "parts");
    static final List<String> NAMES = List.of("debt", "rate", "notes", "rests", "high", "week", "parts");

    /** Reads a text by the grammar's own rules, one method each. */
    static final class Parser {
        final List<Token> tokens = new ArrayList<>();
        final Told told = new Told();
        int at;
        int open;

        Parser(String text) {
            int i = 0;
            while (i < text.length()) {
                char c = text.charAt(i);
                int j = i + 1;
                if (c == ' ' || c == '\n') {
                    i++;
                    continue;
                }
                if (c >= 'a' && c <= 'z') {
                    while (j < text.length() && text.charAt(j) >= 'a' && text.charAt(j) <= 'z') {
                        j++;
                    }
                } else if (c >= '0' && c <= '9') {
                    while (j < text.length() && text.charAt(j) >= '0' && text.charAt(j) <= '9') {
                        j++;
                    }
                } else if (j < text.length() && List.of("<=", ">=", "<>").contains(text.substring(i, j + 1))) {
                    j++;
                }
                tokens.add(new Token(text.substring(i, j), i));
                i = j;
            }
            tokens.add(new Token("", text.length()));
        }

        String now() {
            return tokens.get(at).word;
        }

        int place() {
            return tokens.get(at).place;
        }

        void need(boolean holds, int fault) {
            if (!holds) {
                throw new Fault(fault, place());
            }
        }

        void word(String word) {
            need(now().equals(word), 1);
            at++;
        }

        boolean isNumber() {
            return now().matches("[0-9]+");
        }

        int number(int least, int most) {
            need(isNumber(), 1);
            BigInteger value = new BigInteger(now());
            need(value.compareTo(BigInteger.valueOf(least)) >= 0 && value.compareTo(BigInteger.valueOf(most)) <= 0, 2);
            at++;
            return value.intValue();
        }

        String name() {
            need(now().matches("[a-z]{1,6}") && !LANGUAGE.contains(now()), 1);
            return now();
        }

        Told text() {
            while (!now().isEmpty()) {
                line();
                word(";");
                told.lines++;
            }
            return told;
        }

        void line() {
            switch (now()) {
                case "tavern" -> {
                    need(told.taverns.size() < 3, 2);
                    at++;
                    String name = name();
                    need(!told.taverns.contains(name), 3);
                    at++;
                    told.taverns.add(name);
                    told.rates.add(number(0, 99));
                    told.tills.add(number(0, 9999));
                }
                case "voice" -> voice();
                case "verse" -> verse();
                case "baker" -> baker();
                case "purse" -> {
                    need(told.purse < 0, 3);
                    at++;
                    told.purse = number(0, 999);
                }
                case "seed" -> {
                    need(told.seed < 0, 3);
                    at++;
                    told.seed = number(0, 99999);
                }
                case "law" -> {
                    at++;
                    need(now().equals("due") || now().equals("crack"), 1);
                    boolean due = now().equals("due");
                    need((due ? told.due : told.crack) == null, 3);
                    at++;
                    Formula formula = or();
                    if (due) {
                        told.due = formula;
                    } else {
                        told.crack = formula;
                    }
                }
                default -> need(false, 1);
            }
        }

        void voice() {
            need(told.voices.size() < 6, 2);
            at++;
            Voice voice = new Voice();
            voice.name = name();
            need(told.voices.stream().noneMatch(v -> v.name.equals(voice.name)), 3);
            at++;
            voice.low = number(1, 40);
            voice.high = number(voice.low, 40);
            if (now().equals("boy")) {
                at++;
                voice.boy = true;
            }
            if (now().equals("pawn")) {
                at++;
                voice.home = told.taverns.indexOf(name());
                need(voice.home >= 0, 4);
                at++;
                voice.debt = number(0, 99);
            }
            if (now().equals("odds")) {
                at++;
                voice.odds = number(1, 99);
            }
            told.voices.add(voice);
        }

        void verse() {
            need(told.verses.size() < 4, 2);
            at++;
            Verse verse = new Verse();
            verse.name = name();
            need(told.verses.stream().noneMatch(v -> v.name.equals(verse.name)), 3);
            at++;
            need(now().equals("part"), 1);
            while (now().equals("part")) {
                need(verse.parts.size() < 3, 2);
                at++;
                List<Integer> bars = new ArrayList<>();
                need(isNumber(), 1);
                while (isNumber()) {
                    need(bars.size() < 8, 2);
                    bars.add(number(0, 40));
                }
                verse.parts.add(bars);
            }
            told.verses.add(verse);
        }

        void baker() {
            need(told.bakers.size() < 3, 2);
            at++;
            Baker baker = new Baker();
            baker.name = name();
            need(told.bakers.stream().noneMatch(b -> b.name.equals(baker.name)), 3);
            at++;
            baker.purse = number(0, 999);
            baker.bid = or();
            told.bakers.add(baker);
        }

        void knot() {
            need(told.knots < 64, 2);
            told.knots++;
            at++;
        }

        Formula or() {
            Formula left = and();
            while (now().equals("or")) {
                knot();
                left = pair("or", left, and());
            }
            return left;
        }

        Formula and() {
            Formula left = not();
            while (now().equals("and")) {
                knot();
                left = pair("and", left, not());
            }
            return left;
        }

        Formula not() {
            if (!now().equals("not")) {
                return compare();
            }
            knot();
            Formula of = not();
            return names -> of.value(names).signum() == 0 ? BigInteger.ONE : BigInteger.ZERO;
        }

        Formula compare() {
            Formula left = sum();
            String sign = now();
            if (List.of("<", "<=", "=", "<>", ">=", ">").contains(sign)) {
                knot();
                return pair(sign, left, sum());
            }
            return left;
        }

        Formula sum() {
            Formula left = product();
            while (now().equals("+") || now().equals("-")) {
                String sign = now();
                knot();
                left = pair(sign, left, product());
            }
            return left;
        }

        Formula product() {
            Formula left = primary();
            while (now().equals("*") || now().equals("/")) {
                String sign = now();
                knot();
                left = pair(sign, left, primary());
            }
            return left;
        }

        Formula primary() {
            if (now().equals("(")) {
                need(open < 8, 2);
                open++;
                at++;
                Formula inner = or();
                word(")");
                open--;
                return inner;
            }
            if (NAMES.contains(now())) {
                String name = now();
                knot();
                return names -> BigInteger.valueOf(names.get(name));
            }
            need(isNumber(), 1);
            BigInteger value = new BigInteger(now());
            need(value.compareTo(BigInteger.valueOf(9999)) <= 0, 2);
            knot();
            return names -> value;
        }

        static Formula pair(String sign, Formula left, Formula right) {
            return names -> {
                BigInteger a = left.value(names);
                BigInteger b = right.value(names);
                return within(work(sign, a, b));
            };
        }

        static BigInteger work(String sign, BigInteger a, BigInteger b) {
            int order = a.compareTo(b);
            return switch (sign) {
                case "or" -> bit(a.signum() != 0 || b.signum() != 0);
                case "and" -> bit(a.signum() != 0 && b.signum() != 0);
                case "<" -> bit(order < 0);
                case "<=" -> bit(order <= 0);
                case "=" -> bit(order == 0);
                case "<>" -> bit(order != 0);
                case ">=" -> bit(order >= 0);
                case ">" -> bit(order > 0);
                case "+" -> a.add(b);
                case "-" -> a.subtract(b);
                case "*" -> a.multiply(b);
                default -> {
                    if (b.signum() == 0) {
                        throw new Wrong();
                    }
                    yield a.divide(b);
                }
            };
        }

        static BigInteger bit(boolean holds) {
            return holds ? BigInteger.ONE : BigInteger.ZERO;
        }

        static BigInteger within(BigInteger value) {
            if (value.abs().compareTo(BigInteger.TEN.pow(12)) > 0) {
                throw new Wrong();
            }
            return value;
        }
    }

    /** {verse, part, voice, crowns} of each who is REDEEMED. */
    static final class World {
        int week;
        int purse;
        long random;
        int runs;
        int knownBy = -1;
        int[] tills = new int[0];
        int[] claims = new int[0];
        int[] bakers = new int[0];
        boolean[] cracked = new boolean[0];
        List<int[]> redeemed = new ArrayList<>();

        World copy() {
            World other = new World();
            other.week = week;
            other.purse = purse;
            other.random = random;
            other.runs = runs;
            other.knownBy = knownBy;
            other.tills = tills.clone();
            other.claims = claims.clone();
            other.bakers = bakers.clone();
            other.cracked = cracked.clone();
            other.redeemed = new ArrayList<>(redeemed);
            return other;
        }
    }

    String tape = "";
    int faultKind;
    int faultPlace = -1;
    Told told = new Told();
    World w = new World();
    World image;
    /** {0, pitch} or {1, which one is struck}. */
    List<int[]> hummed = new ArrayList<>();

    int feed(int... numbers) {
        if (tape.length() + 20 > 800) {
            return -1;
        }
        StringBuilder more = new StringBuilder(tape);
        for (int number : numbers) {
            for (int shift = 24; shift >= 0; shift -= 8) {
                more.append((char) (number >> shift & 255));
            }
        }
        tape = more.toString();
        return tape.length();
    }

    int text(int n) {
        if (n < 0 || n > tape.length()) {
            return -2;
        }
        String text = tape.substring(0, n);
        tape = "";
        faultKind = 0;
        faultPlace = -1;
        Told next;
        try {
            next = new Parser(text).text();
        } catch (Fault fault) {
            faultKind = fault.kind;
            faultPlace = fault.place;
            return -1;
        }
        told = next;
        image = null;
        hummed.clear();
        w = new World();
        w.purse = Math.max(0, told.purse);
        w.random = Math.max(0, told.seed);
        w.tills = told.tills.stream().mapToInt(i -> i).toArray();
        w.claims = new int[told.voices.size()];
        w.cracked = new boolean[told.voices.size()];
        w.bakers = told.bakers.stream().mapToInt(b -> b.purse).toArray();
        return told.lines;
    }

    int fault(int what) {
        return what == 0 ? faultKind : what == 1 ? faultPlace : -1;
    }

    int named(int what, int letters) {
        List<String> names = new ArrayList<>();
        if (what == 0) {
            names.addAll(told.taverns);
        } else if (what == 1) {
            told.voices.forEach(v -> names.add(v.name));
        } else if (what == 2) {
            told.verses.forEach(v -> names.add(v.name));
        } else if (what == 3) {
            told.bakers.forEach(b -> names.add(b.name));
        }
        for (int i = 0; i < names.size(); i++) {
            if (Check.letters(names.get(i)) == letters) {
                return i;
            }
        }
        return -1;
    }

    boolean isVoice(int voice) {
        return voice >= 0 && voice < told.voices.size();
    }

    boolean isVerse(int verse) {
        return verse >= 0 && verse < told.verses.size();
    }

    boolean isPart(int verse, int part) {
        return isVerse(verse) && part >= 0 && part < told.verses.get(verse).parts.size();
    }

    boolean isTavern(int tavern) {
        return tavern >= 0 && tavern < told.taverns.size();
    }

    boolean isBaker(int baker) {
        return baker >= 0 && baker < told.bakers.size();
    }

    List<Integer> bars(int verse, int part) {
        return told.verses.get(verse).parts.get(part);
    }

    /** -100: IndexOutOfBoundsException, -200: NoSuchElementException. */
    int look(int voice, int what) {
        if (!isVoice(voice)) {
            return -100;
        }
        Voice v = told.voices.get(voice);
        return switch (what) {
            case 0 -> v.low;
            case 1 -> v.high;
            case 2 -> v.home;
            case 3 -> v.debt;
            case 4 -> w.claims[voice];
            case 5 -> w.cracked[voice] ? 2 : v.boy ? 1 : 0;
            default -> -200;
        };
    }

    int tavern(int tavern, int what) {
        if (!isTavern(tavern)) {
            return -1;
        }
        int claims = 0;
        for (int v = 0; v < told.voices.size(); v++) {
            claims += told.voices.get(v).home == tavern ? w.claims[v] : 0;
        }
        return what == 0 ? told.rates.get(tavern) : what == 1 ? w.tills[tavern] : what == 2 ? claims : -1;
    }

    int verse(int verse, int what) {
        if (!isVerse(verse)) {
            return -1;
        }
        if (what == 0) {
            return told.verses.get(verse).parts.size();
        }
        return what > 0 && isPart(verse, what - 1) ? bars(verse, what - 1).size() : -1;
    }

    int pitch(int verse, int part, int bar) {
        return isPart(verse, part) && bar >= 0 && bar < bars(verse, part).size() ? bars(verse, part).get(bar) : -1;
    }

    boolean soundsAt(int verse, int part, int voice, int bar) {
        List<Integer> bars = bars(verse, part);
        if (bar < 0 || bar >= bars.size() || w.cracked[voice]) {
            return false;
        }
        int pitch = bars.get(bar);
        return pitch != 0 && pitch >= told.voices.get(voice).low && pitch <= told.voices.get(voice).high;
    }

    int sounds(int verse, int part, int voice) {
        if (!isPart(verse, part) || !isVoice(voice)) {
            return -1;
        }
        int sum = 0;
        for (int bar = 0; bar < 8; bar++) {
            sum += soundsAt(verse, part, voice, bar) ? 1 : 0;
        }
        return sum;
    }

    static int reckon(Formula formula, TreeMap<String, Integer> names, int most, int otherwise) {
        if (formula == null) {
            return otherwise;
        }
        try {
            BigInteger value = formula.value(names);
            return value.max(BigInteger.ZERO).min(BigInteger.valueOf(most)).intValue();
        } catch (Wrong wrong) {
            return otherwise;
        }
    }

    static TreeMap<String, Integer> names(int debt, int rate, int notes, int rests, int high, int week, int parts) {
        TreeMap<String, Integer> names = new TreeMap<>();
        names.put("debt", debt);
        names.put("rate", rate);
        names.put("notes", notes);
        names.put("rests", rests);
        names.put("high", high);
        names.put("week", week);
        names.put("parts", parts);
        return names;
    }

    int rate(Voice voice) {
        return voice.home < 0 ? 0 : told.rates.get(voice.home);
    }

    int due(int verse, int part, int voice) {
        if (!isPart(verse, part) || !isVoice(voice)) {
            return -1;
        }
        Voice v = told.voices.get(voice);
        if (v.home < 0) {
            return 0;
        }
        int rests = (int) bars(verse, part).stream().filter(p -> p == 0).count();
        int high = bars(verse, part).stream().mapToInt(p -> p).max().getAsInt();
        return reckon(told.due, names(v.debt, rate(v), sounds(verse, part, voice), rests, high, w.week,
                told.verses.get(verse).parts.size()), 999, v.debt);
    }

    int bid(int baker, int verse, int purse) {
        int notes = 0;
        int rests = 0;
        int high = 0;
        for (List<Integer> part : told.verses.get(verse).parts) {
            for (int pitch : part) {
                notes += pitch != 0 ? 1 : 0;
                rests += pitch == 0 ? 1 : 0;
                high = Math.max(high, pitch);
            }
        }
        int parts = told.verses.get(verse).parts.size();
        return Math.min(purse, reckon(told.bakers.get(baker).bid, names(0, 0, notes, rests, high, w.week, parts), 999, 0));
    }

    int bids(int baker, int verse) {
        return isBaker(baker) && isVerse(verse) ? bid(baker, verse, w.bakers[baker]) : -1;
    }

    int crack(int voice, int week) {
        Voice v = told.voices.get(voice);
        return reckon(told.crack, names(v.debt, rate(v), 0, 0, v.high, week, 0), 100, 0);
    }

    int cracks(int voice) {
        return isVoice(voice) ? crack(voice, w.week) : -1;
    }

    int redeem(int verse, int part, int voice) {
        if (!isPart(verse, part) || !isVoice(voice) || w.cracked[voice]) {
            return -1;
        }
        for (int[] one : w.redeemed) {
            if (one[0] == verse && (one[1] == part || one[2] == voice)) {
                return -1;
            }
        }
        int crowns = due(verse, part, voice);
        if (crowns > w.purse) {
            return -2;
        }
        w.purse -= crowns;
        if (told.voices.get(voice).home >= 0) {
            w.tills[told.voices.get(voice).home] += crowns;
        }
        w.redeemed.add(new int[] {verse, part, voice, crowns});
        return crowns;
    }

    int undo() {
        if (w.redeemed.isEmpty()) {
            return -1;
        }
        int[] last = w.redeemed.get(w.redeemed.size() - 1);
        int home = told.voices.get(last[2]).home;
        if (home >= 0) {
            if (w.tills[home] < last[3]) {
                return -2;
            }
            w.tills[home] -= last[3];
        }
        w.purse += last[3];
        w.redeemed.remove(w.redeemed.size() - 1);
        return w.redeemed.size();
    }

    int sings(int verse, int part) {
        if (!isPart(verse, part)) {
            return -1;
        }
        for (int[] one : w.redeemed) {
            if (one[0] == verse && one[1] == part) {
                return one[2];
            }
        }
        return -2;
    }

    int bar(int verse, int bar) {
        if (!isVerse(verse) || bar < 0 || bar > 7) {
            return -1;
        }
        int heard = 0;
        for (int[] one : w.redeemed) {
            if (one[0] == verse && soundsAt(verse, one[1], one[2], bar)) {
                heard += 1 << one[1];
            }
        }
        return heard;
    }

    int sunday() {
        int heard = 0;
        for (int[] one : w.redeemed) {
            heard += sounds(one[0], one[1], one[2]);
            if (told.voices.get(one[2]).home >= 0) {
                w.claims[one[2]] += (int) bars(one[0], one[1]).stream().filter(p -> p == 0).count();
            }
        }
        w.redeemed.clear();
        for (int v = 0; v < told.voices.size(); v++) {
            if (told.voices.get(v).boy && !w.cracked[v]) {
                w.random = (w.random * 1103515245L + 12345L) % (1L << 31);
                w.cracked[v] = w.random / 65536 % 100 < crack(v, w.week);
            }
        }
        w.week++;
        return heard;
    }

    private int[] row;
    private int[] bestRow;
    private int bestNotes;
    private int bestCrowns;
    private List<int[]> slots;
    private int[][] slotNotes;
    private int[][] slotCrowns;

    /** How many rows findBest() goes through at most. */
    long rows() {
        long rows = 1;
        for (Verse verse : told.verses) {
            for (int i = 0; i < verse.parts.size(); i++) {
                rows *= told.voices.size() + 1;
            }
        }
        return rows;
    }

    /** Every row of VOICES there is, in the order of the document: the first of the best stays. */
    void findBest(int crowns) {
        slots = new ArrayList<>();
        for (int v = 0; v < told.verses.size(); v++) {
            for (int p = 0; p < told.verses.get(v).parts.size(); p++) {
                slots.add(new int[] {v, p});
            }
        }
        slotNotes = new int[slots.size()][told.voices.size()];
        slotCrowns = new int[slots.size()][told.voices.size()];
        for (int k = 0; k < slots.size(); k++) {
            for (int voice = 0; voice < told.voices.size(); voice++) {
                slotNotes[k][voice] = sounds(slots.get(k)[0], slots.get(k)[1], voice);
                slotCrowns[k][voice] = due(slots.get(k)[0], slots.get(k)[1], voice);
            }
        }
        row = new int[slots.size()];
        bestRow = null;
        bestNotes = -1;
        tryRows(0, 0, 0, crowns);
    }

    private void tryRows(int k, int notes, int spent, int crowns) {
        if (spent > crowns) {
            return;
        }
        if (k == row.length) {
            if (notes > bestNotes || notes == bestNotes && spent < bestCrowns) {
                bestNotes = notes;
                bestCrowns = spent;
                bestRow = row.clone();
            }
            return;
        }
        int[] slot = slots.get(k);
        for (int voice = 0; voice < told.voices.size(); voice++) {
            boolean fits = !w.cracked[voice];
            for (int j = 0; j < k; j++) {
                fits &= slots.get(j)[0] != slot[0] || row[j] != voice;
            }
            if (fits) {
                row[k] = voice;
                tryRows(k + 1, notes + slotNotes[k][voice], spent + slotCrowns[k][voice], crowns);
            }
        }
        row[k] = -2;
        tryRows(k + 1, notes, spent, crowns);
    }

    int best(int crowns, int what) {
        if (crowns < 0 || crowns > 999 || what < 0 || what > 1) {
            return -1;
        }
        findBest(crowns);
        return what == 0 ? bestNotes : bestCrowns;
    }

    int chosen(int crowns, int verse, int part) {
        if (crowns < 0 || crowns > 999 || !isPart(verse, part)) {
            return -1;
        }
        findBest(crowns);
        for (int i = 0; i < slots.size(); i++) {
            if (slots.get(i)[0] == verse && slots.get(i)[1] == part) {
                return bestRow[i];
            }
        }
        throw new IllegalStateException();
    }

    /** {owner, price} by VERSE, the bakers' purses last. */
    List<int[]> market(int verses) {
        List<int[]> sales = new ArrayList<>();
        int[] left = w.bakers.clone();
        for (int v = 0; v < told.verses.size(); v++) {
            int owner = -2;
            int price = 0;
            if ((verses & 1 << v) != 0) {
                List<Integer> bids = new ArrayList<>();
                for (int b = 0; b < left.length; b++) {
                    bids.add(bid(b, v, left[b]));
                }
                int most = bids.stream().mapToInt(i -> i).max().orElse(0);
                if (most > 0) {
                    owner = bids.indexOf(most);
                    bids.remove(owner);
                    price = bids.stream().mapToInt(i -> i).max().orElse(0);
                    left[owner] -= price;
                }
            }
            sales.add(new int[] {owner, price});
        }
        sales.add(left);
        return sales;
    }

    boolean areVerses(int verses) {
        return verses >= 0 && (long) verses < 1L << told.verses.size();
    }

    int sold(int verses, int verse, int what) {
        if (!areVerses(verses) || !isVerse(verse) || (verses & 1 << verse) == 0 || what < 0 || what > 1) {
            return -1;
        }
        return market(verses).get(verse)[what];
    }

    int easter(int verses) {
        if (!areVerses(verses)) {
            return -1;
        }
        List<int[]> sales = market(verses);
        int sum = 0;
        for (int v = 0; v < told.verses.size(); v++) {
            sum += sales.get(v)[1];
        }
        w.bakers = sales.get(told.verses.size());
        w.purse += sum;
        return sum;
    }

    int hum(int pitch) {
        if (pitch < 1 || pitch > 40 || hummed.size() >= 24) {
            return -1;
        }
        hummed.add(new int[] {0, pitch});
        return hummed.size() - 1;
    }

    int strike(int one) {
        if (one < 0 || one >= hummed.size() || hummed.size() >= 24) {
            return -1;
        }
        hummed.add(new int[] {1, one});
        return hummed.size() - 1;
    }

    boolean known(int n) {
        if (n < -1 || n > hummed.size()) {
            return false;
        }
        w.knownBy = n;
        return true;
    }

    int knownCount() {
        return w.knownBy < 0 ? hummed.size() : w.knownBy;
    }

    boolean isStruck(int one) {
        for (int j = one + 1; j < knownCount(); j++) {
            if (hummed.get(j)[0] == 1 && hummed.get(j)[1] == one && !isStruck(j)) {
                return true;
            }
        }
        return false;
    }

    boolean isReached(int hum, int voice) {
        int pitch = hummed.get(hum)[1];
        Voice v = told.voices.get(voice);
        return !w.cracked[voice] && pitch >= v.low && pitch <= v.high;
    }

    List<Integer> knownOnes() {
        List<Integer> ones = new ArrayList<>();
        for (int i = 0; i < knownCount(); i++) {
            if (hummed.get(i)[0] == 0 && !isStruck(i)) {
                ones.add(i);
            }
        }
        return ones;
    }

    int thieves() {
        int found = 0;
        for (int v = 0; v < told.voices.size(); v++) {
            int voice = v;
            if (!w.cracked[v] && knownOnes().stream().allMatch(one -> isReached(one, voice))) {
                found += 1 << v;
            }
        }
        return found;
    }

    int odds(int voice, int what) {
        if (!isVoice(voice) || what < 0 || what > 1) {
            return -1;
        }
        int found = thieves();
        if ((found & 1 << voice) == 0) {
            return what;
        }
        int sum = 0;
        for (int v = 0; v < told.voices.size(); v++) {
            sum += (found & 1 << v) != 0 ? told.voices.get(v).odds : 0;
        }
        int one = told.voices.get(voice).odds;
        int common = BigInteger.valueOf(one).gcd(BigInteger.valueOf(sum)).intValue();
        return (what == 0 ? one : sum) / common;
    }

    int gang() {
        for (int many = 0; many <= told.voices.size(); many++) {
            for (int bits = 0; bits < 1 << told.voices.size(); bits++) {
                int gang = bits;
                if (Integer.bitCount(bits) == many && knownOnes().stream().allMatch(one -> isReachedByOne(one, gang))) {
                    return bits;
                }
            }
        }
        return -2;
    }

    boolean isReachedByOne(int one, int gang) {
        for (int v = 0; v < told.voices.size(); v++) {
            if ((gang & 1 << v) != 0 && isReached(one, v)) {
                return true;
            }
        }
        return false;
    }

    /** The row of VOICES with the GAPS last; null: there are not so many. */
    int[] canon(int verse, int part, int n, int d) {
        int voices = told.voices.size();
        int[] found = null;
        for (int code = 0; code < Math.pow(voices, n); code++) {
            int[] one = new int[n + 1];
            int digits = code;
            boolean fits = true;
            for (int k = n - 1; k >= 0; k--) {
                one[k] = digits % voices;
                digits /= voices;
                fits &= !w.cracked[one[k]];
                for (int j = k + 1; j < n; j++) {
                    fits &= one[j] != one[k];
                }
            }
            for (int t = 0; fits && t < (n - 1) * d + bars(verse, part).size(); t++) {
                boolean heard = false;
                for (int k = 0; k < n; k++) {
                    heard |= soundsAt(verse, part, one[k], t - k * d);
                }
                one[n] += heard ? 0 : 1;
            }
            if (fits && (found == null || one[n] < found[n])) {
                found = one;
            }
        }
        return found;
    }

    int round(int verse, int part, int n, int d) {
        if (!isPart(verse, part) || n < 1 || n > 4 || d < 1 || d > 8) {
            return -1;
        }
        int[] found = canon(verse, part, n, d);
        return found == null ? -2 : found[n];
    }

    int entry(int verse, int part, int n, int d, int k) {
        if (!isPart(verse, part) || n < 1 || n > 4 || d < 1 || d > 8 || k < 0 || k >= n) {
            return -1;
        }
        int[] found = canon(verse, part, n, d);
        return found == null ? -2 : found[k];
    }

    int[] shares(int tavern) {
        int[] shares = new int[told.voices.size()];
        int left = w.tills[tavern];
        for (int v = 0; v < shares.length; v++) {
            if (told.voices.get(v).home == tavern) {
                shares[v] = Math.min(left, w.claims[v]);
                left -= shares[v];
            }
        }
        return shares;
    }

    int run(int tavern, int voice) {
        if (!isTavern(tavern) || voice < -1 || voice >= told.voices.size()) {
            return -1;
        }
        if (voice == -1) {
            return java.util.Arrays.stream(shares(tavern)).sum();
        }
        return told.voices.get(voice).home == tavern ? shares(tavern)[voice] : -1;
    }

    int pay(int tavern) {
        if (!isTavern(tavern)) {
            return -1;
        }
        int sum = 0;
        int[] shares = shares(tavern);
        for (int v = 0; v < shares.length; v++) {
            w.claims[v] -= shares[v];
            sum += shares[v];
        }
        w.tills[tavern] -= sum;
        w.runs += sum;
        return sum;
    }

    long whole(int voice, int n, int what) {
        if (!isVoice(voice) || n < 0 || n > 9 || what < 0 || what > 1) {
            return -1;
        }
        if (w.cracked[voice]) {
            return what;
        }
        BigInteger above = BigInteger.ONE;
        BigInteger below = BigInteger.ONE;
        for (int i = 0; told.voices.get(voice).boy && i < n; i++) {
            above = above.multiply(BigInteger.valueOf(100 - crack(voice, w.week + i)));
            below = below.multiply(BigInteger.valueOf(100));
        }
        return (what == 0 ? above : below).divide(above.gcd(below)).longValueExact();
    }

    int keep() {
        image = w.copy();
        return w.week;
    }

    int back() {
        if (image == null) {
            return -1;
        }
        w = image.copy();
        return w.week;
    }

    int count(int what) {
        return switch (what) {
            case 0 -> told.taverns.size();
            case 1 -> told.voices.size();
            case 2 -> told.verses.size();
            case 3 -> told.bakers.size();
            case 4 -> told.knots;
            case 5 -> w.week;
            case 6 -> w.purse;
            case 7 -> w.redeemed.size();
            case 8 -> hummed.size();
            case 9 -> knownCount();
            case 10 -> {
                int sum = 0;
                for (boolean one : w.cracked) {
                    sum += one ? 1 : 0;
                }
                yield sum;
            }
            case 11 -> w.purse + w.runs + java.util.Arrays.stream(w.tills).sum() + java.util.Arrays.stream(w.bakers).sum();
            default -> -1;
        };
    }
}
