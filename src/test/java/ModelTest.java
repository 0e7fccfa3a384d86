import java.util.Random;

/** Random texts and random calls, on the class and on the plain model of the document. */
public final class ModelTest {
    private static final String[] POOL = {"a", "b", "cc", "dora", "abcdef", "zzzzzz", "x", "y"};
    private static final String[] VALUES = {"debt", "rate", "notes", "rests", "high", "week", "parts"};
    private static final String[] SIGNS = {"+", "-", "*", "/", "+", "-", "*", "/", "<", "<=", "=", "<>", ">=", ">"};
    private static final String[] SCRAPS = {";", "(", ")", "<", "=", ">", "<>", "+", "/", " ", "\n", "7", "0", "41",
        "100", "10000", "part", "boy", "pawn", "odds", "not", "and", "or", "due", "law", "tavern", "longer", "toolong",
        "A", "#", "\t", "\u00e9", "parts", "purse", "seed", "99999999999999999999", "("};

    private final Random random;
    private final RansomHymn x = new RansomHymn();
    private final Model m = new Model();
    private final StringBuilder story = new StringBuilder();
    private int calls = 0;

    private ModelTest(long seed) {
        random = new Random(seed);
    }

    public static void main(String[] args) {
        int runs = args.length > 0 ? Integer.parseInt(args[0]) : 1000;
        for (int run = 0; run < runs && Check.wrongSoFar() == 0; run++) {
            new ModelTest(run).play(run);
        }
        Check.end("ModelTest");
    }

    private void play(int run) {
        boolean small = random.nextBoolean();
        while (calls < 480 && Check.wrongSoFar() == 0) {
            if (calls == 0 || random.nextInt(120) == 0) {
                tellText(small);
            } else {
                call();
            }
        }
        if (Check.wrongSoFar() != 0) {
            System.out.println("run " + run + ":\n" + story);
        }
    }

    private int upTo(int most) {
        return random.nextInt(most + 1);
    }

    private String pick(String[] of) {
        return of[random.nextInt(of.length)];
    }

    /** Mostly 0 .. most less 1, sometimes around it, seldom anything. */
    private int arg(int most) {
        int dice = random.nextInt(40);
        if (dice == 0) {
            return new int[] {Integer.MIN_VALUE, Integer.MAX_VALUE, -1, -2, 31, 32, 64, 1000}[random.nextInt(8)];
        }
        if (dice == 1) {
            return random.nextInt();
        }
        return dice < 5 ? random.nextInt(most + 3) - 1 : random.nextInt(Math.max(1, most));
    }

    private void check(String call, long got, long want) {
        calls++;
        story.append(call).append(" = ").append(got).append('\n');
        Check.same(call, got, want);
    }

    private void tellText(boolean small) {
        boolean spoilt = calls > 0 && random.nextInt(3) != 0;
        String text = randomText(small);
        for (int i = 0; i < 200 && (text.length() > 790 || !spoilt && !isWhole(text)); i++) {
            text = randomText(small);
        }
        if (spoilt) {
            text = spoil(text);
        }
        text = text.substring(0, Math.min(text.length(), 800 - m.tape.length() % 20));
        story.append(text).append('\n');
        int padded = (text.length() + 19) / 20 * 20;
        StringBuilder tape = new StringBuilder(text);
        while (tape.length() < padded) {
            tape.append(' ');
        }
        int before = m.tape.length();
        for (int at = 0; at < padded; at += 20) {
            int[] n = new int[5];
            for (int i = 0; i < 20; i++) {
                n[i / 4] = n[i / 4] << 8 | tape.charAt(at + i) & 255;
            }
            check("feed", x.feed(n[0], n[1], n[2], n[3], n[4]), m.feed(n));
        }
        int n = random.nextInt(30) == 0 ? random.nextInt(820) - 10 : before + text.length();
        check("text(" + n + ")", x.text(n), m.text(n));
        check("fault(0)", x.fault(0), m.fault(0));
        check("fault(1)", x.fault(1), m.fault(1));
    }

    private static boolean isWhole(String text) {
        try {
            new Model.Parser(text).text();
            return true;
        } catch (Model.Fault fault) {
            return false;
        }
    }

    private String spoil(String text) {
        int at = upTo(text.length());
        switch (random.nextInt(8)) {
            case 0:
                return text.substring(0, at) + pick(SCRAPS) + text.substring(at);
            case 3:
            case 4:
                return spoilWord(text, "[0-9]+", new String[] {"0", "41", "100", "1000", "10000", "100000", "40"});
            case 5:
                return spoilWord(text, "\\b(a|b|cc|dora|abcdef|zzzzzz|x|y)\\b", POOL);
            case 6:
                String[] lines = text.split(";");
                return text + pick(lines) + ";";
            case 1:
                return text.substring(0, at) + " " + pick(SCRAPS) + " " + text.substring(at);
            case 2:
                return text.substring(0, at);
            default:
                int to = Math.min(text.length(), at + 1 + random.nextInt(3));
                return text.substring(0, at) + text.substring(to);
        }
    }

    private String spoilWord(String text, String pattern, String[] others) {
        java.util.List<java.util.regex.MatchResult> found = java.util.regex.Pattern.compile(pattern).matcher(text)
                .results().toList();
        if (found.isEmpty()) {
            return text;
        }
        java.util.regex.MatchResult one = found.get(random.nextInt(found.size()));
        return text.substring(0, one.start()) + pick(others) + text.substring(one.end());
    }

    private String randomText(boolean small) {
        StringBuilder text = new StringBuilder();
        boolean crowded = random.nextInt(12) == 0;
        boolean sparse = random.nextInt(12) == 0;
        int taverns = sparse ? upTo(1) : 1 + upTo(crowded ? 3 : 2);
        int voices = sparse ? upTo(1) : 2 + upTo(crowded ? 5 : small ? 2 : 4);
        int verses = sparse ? upTo(1) : 1 + upTo(crowded ? 4 : small ? 1 : 3);
        int bakers = upTo(crowded ? 4 : 3);
        int mostTill = random.nextBoolean() ? 3 : 9999;
        for (int i = 0; i < taverns; i++) {
            text.append("tavern ").append(POOL[i]).append(' ').append(upTo(20)).append(' ').append(upTo(mostTill)).append(";");
        }
        for (int i = 0; i < voices; i++) {
            voice(text, POOL[i], taverns);
        }
        for (int i = 0; i < verses; i++) {
            verse(text, POOL[i + 2]);
        }
        for (int i = 0; i < bakers; i++) {
            text.append("baker ").append(POOL[i + 1]).append(' ').append(upTo(60)).append(' ');
            formula(text, 0);
            text.append(";");
        }
        extras(text);
        return text.toString();
    }

    private void extras(StringBuilder text) {
        if (random.nextInt(4) != 0) {
            text.append("purse ").append(upTo(random.nextBoolean() ? 999 : 60)).append(";");
        }
        if (random.nextBoolean()) {
            text.append("\n seed ").append(upTo(99999)).append(" ;");
        }
        if (random.nextBoolean()) {
            text.append("law due ");
            formula(text, 0);
            text.append(";");
        }
        if (random.nextInt(4) != 0) {
            text.append("law crack ");
            if (random.nextBoolean()) {
                text.append(upTo(60)).append(pick(SIGNS));
            }
            formula(text, random.nextInt(3));
            text.append(";");
        }
    }

    private void voice(StringBuilder text, String name, int taverns) {
        int low = 1 + random.nextInt(25);
        int high = Math.min(40, low + random.nextInt(30));
        text.append("voice ").append(name).append(' ').append(low).append(' ').append(high);
        if (random.nextBoolean()) {
            text.append(" boy");
        }
        if (taverns > 0 && random.nextInt(3) != 0) {
            text.append(" pawn ").append(POOL[random.nextInt(taverns)]).append(' ').append(upTo(20));
        }
        if (random.nextInt(3) == 0) {
            text.append(" odds ").append(1 + upTo(12));
        }
        text.append(";");
    }

    private void verse(StringBuilder text, String name) {
        text.append("verse ").append(name);
        int parts = 1 + random.nextInt(3);
        for (int p = 0; p < parts; p++) {
            text.append(" part");
            int bars = 1 + random.nextInt(random.nextInt(8) + 1);
            for (int b = 0; b < bars; b++) {
                text.append(' ').append(random.nextInt(4) == 0 ? 0 : 1 + random.nextInt(40));
            }
        }
        text.append(";");
    }

    private void formula(StringBuilder text, int depth) {
        int dice = random.nextInt(depth > 3 ? 3 : 9);
        if (dice < 2) {
            text.append(pick(VALUES));
        } else if (dice == 2) {
            text.append(random.nextInt(6) == 0 ? upTo(9999) : upTo(12));
        } else if (dice == 3) {
            text.append('(');
            formula(text, depth + 1);
            text.append(')');
        } else if (dice == 4) {
            // Not ahead of a sum would be a fault inside one: brackets keep most texts whole.
            text.append("(not ");
            formula(text, depth + 1);
            text.append(')');
        } else {
            formula(text, depth + 1);
            text.append(' ').append(random.nextInt(6) == 0 ? pick(new String[] {"and", "or"}) : pick(SIGNS)).append(' ');
            formula(text, depth + 1);
        }
    }

    private void call() {
        int v = arg(m.told.verses.size());
        int p = arg(3);
        int s = arg(m.told.voices.size());
        int t = arg(m.told.taverns.size());
        int a = arg(6);
        switch (random.nextInt(48)) {
            case 0 -> {
                if (random.nextInt(20) == 0) {
                    check("feed", x.feed(v, p, s, t, a), m.feed(v, p, s, t, a));
                }
            }
            case 1 -> check("fault(" + a + ")", x.fault(a), m.fault(a));
            case 2 -> {
                int letters = random.nextInt(10) == 0 ? random.nextInt() : Check.letters(pick(POOL));
                check("named(" + a + ", " + letters + ")", x.named(a, letters), m.named(a, letters));
            }
            case 3 -> look(s, a);
            case 4 -> check("tavern(" + t + ", " + p + ")", x.tavern(t, p), m.tavern(t, p));
            case 5 -> check("verse(" + v + ", " + a + ")", x.verse(v, a), m.verse(v, a));
            case 6 -> check("pitch(" + v + ", " + p + ", " + a + ")", x.pitch(v, p, a), m.pitch(v, p, a));
            case 7 -> check("due(" + v + ", " + p + ", " + s + ")", x.due(v, p, s), m.due(v, p, s));
            case 8 -> check("sounds(" + v + ", " + p + ", " + s + ")", x.sounds(v, p, s), m.sounds(v, p, s));
            case 9 -> check("bids(" + t + ", " + v + ")", x.bids(t, v), m.bids(t, v));
            case 10 -> check("cracks(" + s + ")", x.cracks(s), m.cracks(s));
            case 11, 12, 20, 21, 22, 23, 24, 25, 26, 27 -> check("redeem(" + v + ", " + p + ", " + s + ")", x.redeem(v, p, s), m.redeem(v, p, s));
            case 13 -> check("undo()", x.undo(), m.undo());
            case 14 -> check("sings(" + v + ", " + p + ")", x.sings(v, p), m.sings(v, p));
            case 15 -> check("bar(" + v + ", " + a + ")", x.bar(v, a), m.bar(v, a));
            case 16 -> check("sunday()", x.sunday(), m.sunday());
            case 17, 18 -> bestCall(v, p);
            case 19 -> {
                int verses = arg(1 << m.told.verses.size());
                check("sold(" + verses + ", " + v + ", " + p + ")", x.sold(verses, v, p), m.sold(verses, v, p));
                if (random.nextInt(3) == 0) {
                    check("easter(" + verses + ")", x.easter(verses), m.easter(verses));
                }
            }
            default -> laterCall(v, p, s, t, a);
        }
    }

    private void laterCall(int v, int p, int s, int t, int a) {
        switch (random.nextInt(13)) {
            case 0 -> {
                int pitch = arg(42);
                check("hum(" + pitch + ")", x.hum(pitch), m.hum(pitch));
            }
            case 1 -> {
                int one = arg(m.hummed.size());
                check("strike(" + one + ")", x.strike(one), m.strike(one));
            }
            case 2 -> {
                int n = random.nextInt(3) == 0 ? -1 : arg(m.hummed.size() + 1);
                check("known(" + n + ")", x.known(n) ? 1 : 0, m.known(n) ? 1 : 0);
            }
            case 3 -> check("thieves()", x.thieves(), m.thieves());
            case 4 -> check("odds(" + s + ", " + (a & 1) + ")", x.odds(s, a & 1), m.odds(s, a & 1));
            case 5 -> check("gang()", x.gang(), m.gang());
            case 6 -> {
                int n = arg(5);
                int d = arg(9);
                check("round(" + v + ", " + p + ", " + n + ", " + d + ")", x.round(v, p, n, d), m.round(v, p, n, d));
                for (int k = -1; k <= 4; k++) {
                    check("entry(" + v + ", " + p + ", " + n + ", " + d + ", " + k + ")", x.entry(v, p, n, d, k),
                            m.entry(v, p, n, d, k));
                }
            }
            case 7 -> check("run(" + t + ", " + s + ")", x.run(t, s), m.run(t, s));
            case 8 -> check("run(" + t + ", -1)", x.run(t, -1), m.run(t, -1));
            case 9 -> {
                check("pay(" + t + ")", x.pay(t), m.pay(t));
                check("undo()", x.undo(), m.undo());
            }
            case 10 -> {
                int n = arg(10);
                check("whole(" + s + ", " + n + ", " + (a & 1) + ")", x.whole(s, n, a & 1), m.whole(s, n, a & 1));
            }
            case 11 -> {
                int which = random.nextInt(5);
                check(which < 2 ? "keep()" : "back()", which < 2 ? x.keep() : x.back(), which < 2 ? m.keep() : m.back());
            }
            default -> {
                int what = arg(12);
                check("count(" + what + ")", x.count(what), m.count(what));
            }
        }
    }

    private void look(int voice, int what) {
        int thrown = Check.thrownByLook(x, voice, what);
        int got = thrown == 0 ? x.look(voice, what) : -100 * thrown;
        check("look(" + voice + ", " + what + ")", got, m.look(voice, what));
    }

    private void bestCall(int verse, int part) {
        if (m.rows() > 200000) {
            return;
        }
        int crowns = random.nextInt(3) == 0 ? arg(1000) : arg(60);
        check("chosen(" + crowns + ", " + verse + ", " + part + ")", x.chosen(crowns, verse, part),
                m.chosen(crowns, verse, part));
        check("best(" + crowns + ", 0)", x.best(crowns, 0), m.best(crowns, 0));
        check("best(" + crowns + ", 1)", x.best(crowns, 1), m.best(crowns, 1));
    }
}
