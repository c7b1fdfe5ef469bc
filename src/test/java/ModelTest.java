import java.util.ArrayList;
import java.util.List;
import java.util.NoSuchElementException;
import java.util.Random;

/** Random runs of at most 512 calls, each answer compared with the Model's. */
final class ModelTest {
    private static final int RUNS = 3000;
    private static final String[] NAMES = {"ann", "bob", "cid", "dan", "eve", "fay", "gus", "hal", "a", "zzzzzzz", "nobody"};
    private static final String[] GOODS = {"oil", "rye", "tin", "wax", "silk", "x", "tea"};
    private static final String[] ANY = {"person", "good", "sells", "wants", "knows", "foes", "deals", "veils", "bell",
        "buys", "nods", "tells", "day", "or", "and", "not", "home", "veiled", "fed", "sold", "coins", "friends",
        "hunger", "number", "ann", "bob", "oil", ";", ";", "<", "=", ">", "(", ")", ".", "0", "1", "9", "10", "99",
        "100", "1000", "P", "abcdefgh", "a1", "1a", "\t", "zed"};

    private final Random random;
    private final int run;
    private final StrangerMarket real = new StrangerMarket();
    private final Model model = new Model();
    private final List<String> calls = new ArrayList<>();
    private List<String> persons = new ArrayList<>();
    private List<String> goods = new ArrayList<>();
    private static int wrong = 0;
    private boolean failed = false;

    ModelTest(int run) {
        this.run = run;
        this.random = new Random(run * 7919L + 13);
    }

    public static void main(String[] args) {
        int runs = args.length > 0 ? Integer.parseInt(args[0]) : RUNS;
        long all = 0;
        for (int run = 0; run < runs && wrong < 5; run++) {
            ModelTest test = new ModelTest(run);
            test.play();
            all += test.calls.size();
        }
        System.out.println("ModelTest: " + runs + " runs, " + all + " calls, " + wrong + " answers not as due");
        if (wrong != 0) System.exit(1);
    }

    private void due(String call, int got, int want) {
        calls.add(call + " -> " + got);
        if (got != want && !failed) {
            failed = true;
            wrong++;
            System.out.println("run " + run + ": " + call + " answered " + got + ", due is " + want);
            for (String c : calls.subList(Math.max(0, calls.size() - 60), calls.size())) System.out.println("    " + c);
        }
    }

    private boolean chance(int percent) {
        return random.nextInt(100) < percent;
    }

    private String one(List<String> of) {
        return of.isEmpty() ? "zed" : of.get(random.nextInt(of.size()));
    }

    private void play() {
        int most = 60 + random.nextInt(440);
        if (chance(95)) tellCounty();
        while (calls.size() < most && !failed) step();
        probe();
    }

    private void step() {
        int what = random.nextInt(100);
        if (what < 2) tellCounty();
        else if (what < 40) act();
        else if (what < 60) question();
        else if (what < 68) tellBook();
        else if (what < 74) tellSentence();
        else if (what < 80) look();
        else if (what < 84) keepings();
        else if (what < 88) masks();
        else if (what < 90) tapes();
        else if (what < 96) due("fault()", real.fault(), model.fault());
        else if (calls.size() < 300) probe();
    }

    private int p() {
        return chance(4) ? random.nextInt(12) - 3 : random.nextInt(Math.max(1, persons.size()));
    }

    private int g() {
        return chance(4) ? random.nextInt(9) - 2 : random.nextInt(Math.max(1, goods.size()));
    }

    /** Mostly one who wants something and one who has it. */
    private int[] likelyBuy() {
        int[] all = {p(), g(), p()};
        int tries = chance(85) ? 30 : 0;
        for (int k = 0; k < tries; k++) {
            if (model.good(all[0], all[1], 1) > 0 && model.good(all[2], all[1], 0) > 0) return all;
            all = new int[] {p(), g(), p()};
        }
        return all;
    }

    private static String named(List<String> of, int k) {
        return k >= 0 && k < of.size() ? of.get(k) : "zed";
    }

    private int bool(boolean b) {
        return b ? 1 : 0;
    }

    private void act() {
        int p = p();
        int q = p();
        int r = p();
        int g = g();
        switch (random.nextInt(12)) {
            case 0, 1, 2, 3, 4, 5 -> {
                int[] likely = likelyBuy();
                p = likely[0];
                g = likely[1];
                q = likely[2];
                due("buy(" + p + ", " + g + ", " + q + ")", real.buy(p, g, q), model.buy(p, g, q));
            }
            case 6 -> due("nod(" + p + ", " + q + ")", real.nod(p, q), model.nod(p, q));
            case 7 -> due("veil(" + p + ")", real.veil(p), model.veil(p));
            case 8 -> due("tell(" + p + ", " + q + ", " + r + ")", real.tell(p, q, r), model.tell(p, q, r));
            case 9 -> {
                int n = chance(70) ? 1 + random.nextInt(3) : random.nextInt(64) - 1;
                int times = chance(5) ? 7 : 1;
                if (times > 1) n = 55 + random.nextInt(6);
                for (int k = 0; k < times; k++) due("days(" + n + ")", real.days(n), model.days(n));
            }
            case 10 -> {
                int n = chance(70) ? 1 + random.nextInt(5) : random.nextInt(64) - 1;
                int seed = random.nextInt();
                due("drawn(" + n + ", " + seed + ")", real.drawn(n, seed), model.drawn(n, seed));
            }
            default -> due("undo()", real.undo(), model.undo());
        }
    }

    private void question() {
        int p = p();
        int q = p();
        int g = g();
        switch (random.nextInt(10)) {
            case 0, 1 -> due("most(" + g + ")", real.most(g), model.most(g));
            case 2 -> {
                due("serve(" + g + ")", real.serve(g), model.serve(g));
                due("serving()", real.serving(), model.serving());
            }
            case 3 -> {
                due("chain(" + p + ", " + q + ")", real.chain(p, q), model.chain(p, q));
                for (int k = -1; k < 4; k++) due("chainAt(" + k + ")", real.chainAt(k), model.chainAt(k));
            }
            case 4 -> due("out(" + p + ")", real.out(p), model.out(p));
            case 5 -> {
                due("apart(" + p + ", " + q + ")", real.apart(p, q), model.apart(p, q));
                due("parting()", real.parting(), model.parting());
            }
            case 6 -> due("recluse()", real.recluse(), model.recluse());
            case 7 -> {
                due("face(" + p + ")", real.face(p), model.face(p));
                int i = random.nextInt(30) - 1;
                due("byteAt(" + i + ")", real.byteAt(i), model.byteAt(i));
            }
            case 8 -> {
                int n = random.nextInt(33) - 1;
                int seed = chance(80) ? random.nextInt() : Integer.MAX_VALUE - random.nextInt(5);
                due("odds(" + p + ", " + n + ", " + seed + ")", real.odds(p, n, seed), model.odds(p, n, seed));
            }
            default -> {
                int k = random.nextInt(10) - 2;
                due("said(" + k + ")", real.said(k), model.said(k));
            }
        }
    }

    private void keepings() {
        int k = chance(90) ? random.nextInt(2) : random.nextInt(6) - 2;
        if (chance(60)) due("image(" + k + ")", bool(real.image(k)), bool(model.image(k)));
        else {
            due("restore(" + k + ")", bool(real.restore(k)), bool(model.restore(k)));
            probe();
        }
    }

    private void look() {
        int p = p();
        int q = p();
        int g = g();
        int what = random.nextInt(10) - 1;
        switch (random.nextInt(6)) {
            case 0, 1 -> person(p, what);
            case 2 -> due("good(" + p + ", " + g + ", " + what + ")", real.good(p, g, what), model.good(p, g, what));
            case 3 -> due("deals(" + p + ", " + q + ")", real.deals(p, q), model.deals(p, q));
            case 4 -> due("now(" + what + ")", real.now(what), model.now(what));
            default -> due("count(" + what + ")", real.count(what), model.count(what));
        }
    }

    private void person(int p, int what) {
        int got;
        int want;
        try {
            got = real.person(p, what);
        } catch (NoSuchElementException e) {
            got = -99;
        }
        try {
            want = model.person(p, what);
        } catch (NoSuchElementException e) {
            want = -99;
        }
        due("person(" + p + ", " + what + ")", got, want);
    }

    /** Everything that can be seen. */
    private void probe() {
        for (int what = 0; what < 6; what++) due("count(" + what + ")", real.count(what), model.count(what));
        for (int what = 0; what < 8; what++) due("now(" + what + ")", real.now(what), model.now(what));
        for (int p = 0; p < persons.size(); p++) {
            for (int what = 0; what < 8; what++) person(p, what);
        }
        due("said(-1)", real.said(-1), model.said(-1));
    }

    private void masks() {
        int pairs = chance(95) ? 1 + random.nextInt(3) : random.nextInt(12);
        StringBuilder text = new StringBuilder();
        for (int k = 0; k < pairs; k++) {
            text.append((char) (chance(97) ? random.nextInt(Math.max(1, persons.size())) : random.nextInt(256)));
            text.append((char) (chance(97) ? random.nextInt(2) : random.nextInt(256)));
        }
        if (chance(3)) text.append((char) 0);
        feed(text.toString());
        due("who()", real.who(), model.who());
        due("ask()", real.ask(), model.ask());
    }

    private void tapes() {
        int[] n = {random.nextInt(), random.nextInt(), random.nextInt(), random.nextInt(), random.nextInt()};
        int times = chance(50) ? 1 : 48;
        for (int k = 0; k < times; k++) {
            due("feed(..)", real.feed(n[0], n[1], n[2], n[3], n[4]), model.feed(n[0], n[1], n[2], n[3], n[4]));
        }
        int to = chance(50) ? random.nextInt(1000) - 20 : random.nextInt(20);
        due("end(" + to + ")", bool(real.end(to)), bool(model.end(to)));
        if (chance(30)) due("who()", real.who(), model.who());
        else if (chance(3)) due("county()", real.county(), model.county());
        else if (chance(30)) due("sentence()", real.sentence(), model.sentence());
        else if (chance(30)) due("book(0)", real.book(0), model.book(0));
        due("count(5)", real.count(5), model.count(5));
        due("fault()", real.fault(), model.fault());
        if (chance(70)) due("end(0)", bool(real.end(0)), bool(model.end(0)));
    }

    private void feed(String text) {
        calls.add("the text " + text);
        due("end(0)", bool(real.end(0)), bool(model.end(0)));
        for (int i = 0; i < text.length(); i += 20) {
            int[] n = new int[5];
            for (int k = 0; k < 20; k++) {
                int b = i + k < text.length() ? text.charAt(i + k) : 32;
                n[k / 4] |= b << 24 - 8 * (k % 4);
            }
            due("feed(..)", real.feed(n[0], n[1], n[2], n[3], n[4]), model.feed(n[0], n[1], n[2], n[3], n[4]));
        }
        due("end(" + text.length() + ")", bool(real.end(text.length())), bool(model.end(text.length())));
    }

    // ---- texts

    private String blank() {
        if (chance(90)) return " ";
        return chance(50) ? "\n" : "  ";
    }

    /** Joined tokens, now and then one of them spoiled. */
    private String join(List<String> tokens, int spoils) {
        if (chance(spoils) && !tokens.isEmpty()) {
            int at = random.nextInt(tokens.size());
            switch (random.nextInt(4)) {
                case 0 -> tokens.remove(at);
                case 1 -> tokens.add(at, ANY[random.nextInt(ANY.length)]);
                case 2 -> tokens.set(at, ANY[random.nextInt(ANY.length)]);
                default -> tokens.subList(at, tokens.size()).clear();
            }
        }
        StringBuilder text = new StringBuilder();
        for (String t : tokens) {
            boolean glue = text.length() > 0 && isRun(text.charAt(text.length() - 1)) && isRun(t.charAt(0));
            if (glue || chance(5)) text.append(glue && chance(1) && chance(20) ? "" : blank());
            text.append(t);
        }
        return text.toString();
    }

    private static boolean isRun(char c) {
        return c >= 'a' && c <= 'z' || c >= '0' && c <= '9';
    }

    private String padded(String text, int most) {
        if (!chance(8)) return text;
        StringBuilder long1 = new StringBuilder();
        int to = Math.max(0, Math.min(940, most - 8 + random.nextInt(20)) - text.length());
        int where = random.nextInt(3);
        if (where == 0) long1.append(" ".repeat(to)).append(text);
        else if (where == 1) long1.append(text).append(" ".repeat(to));
        else {
            int semi = text.indexOf(';', text.length() / 2) + 1;
            long1.append(text, 0, semi).append(" ".repeat(to)).append(text.substring(semi));
        }
        String all = long1.toString();
        return all.length() > 940 ? all.substring(0, 940) : all;
    }

    private void tellCounty() {
        List<String> lines = new ArrayList<>();
        List<String> tokens = new ArrayList<>();
        List<String> ps = new ArrayList<>();
        List<String> gs = new ArrayList<>();
        int persons0 = chance(90) ? 2 + random.nextInt(6) : random.nextInt(9);
        int goods0 = chance(90) ? 1 + random.nextInt(4) : random.nextInt(7);
        for (int k = 0; k < persons0; k++) {
            ps.add(NAMES[k]);
            tokens.addAll(List.of("person", NAMES[k], "" + random.nextInt(chance(95) ? 30 : 101), ";"));
        }
        for (int k = 0; k < goods0; k++) {
            gs.add(GOODS[k]);
            tokens.addAll(List.of("good", GOODS[k], ";"));
        }
        int trades = chance(97) ? 60 : 100;
        for (String p : ps) {
            for (String g : gs) {
                if (!chance(trades)) continue;
                if (chance(45)) tokens.addAll(List.of("sells", p, g, "" + (1 + random.nextInt(9)), "" + random.nextInt(chance(80) ? 4 : 21), ";"));
                else tokens.addAll(List.of("wants", p, g, "" + (1 + random.nextInt(9)), ";"));
            }
        }
        int ties = random.nextInt(chance(60) ? 60 : 95);
        for (int a = 0; a < ps.size(); a++) {
            for (int b = 0; b < a; b++) {
                boolean turn = chance(50);
                String x = ps.get(turn ? a : b);
                String y = ps.get(turn ? b : a);
                if (chance(ties)) tokens.addAll(List.of("knows", x, y, ";"));
                if (chance(12)) tokens.addAll(List.of("foes", y, x, ";"));
            }
        }
        if (chance(3) && ps.size() > 1) tokens.addAll(List.of(chance(50) ? "foes" : "knows", one(ps), one(ps), ";"));
        if (chance(50)) tokens.addAll(List.of("deals", "" + (1 + random.nextInt(4)), ";"));
        if (chance(50)) tokens.addAll(List.of("veils", "" + random.nextInt(10), ";"));
        if (chance(50)) tokens.addAll(List.of("bell", "" + (2 + random.nextInt(chance(70) ? 4 : 29)), ";"));
        if (chance(2)) tokens.addAll(List.of("deals", "3", ";"));
        String text = padded(join(tokens, calls.isEmpty() ? 5 : 25), 900);
        if (text.length() > 940) text = text.substring(0, 940);
        feed(text);
        int got = real.county();
        due("county()", got, model.county());
        due("fault()", real.fault(), model.fault());
        if (got >= 0) {
            persons = ps;
            goods = gs;
            while (persons.size() > real.count(0)) persons.remove(persons.size() - 1);
            while (goods.size() > real.count(1)) goods.remove(goods.size() - 1);
        } else {
            // What was restored or stays may have other names: only the texts' luck depends on it.
            while (persons.size() > Math.max(0, real.count(0))) persons.remove(persons.size() - 1);
        }
    }

    private void tellBook() {
        List<String> tokens = new ArrayList<>();
        int lines = chance(90) ? random.nextInt(8) : 36 + random.nextInt(8);
        for (int k = 0; k < lines; k++) {
            switch (random.nextInt(8)) {
                case 0, 1, 2, 3 -> {
                    int[] likely = likelyBuy();
                    tokens.addAll(List.of(named(persons, likely[0]), "buys", named(goods, likely[1]), named(persons, likely[2])));
                }
                case 4 -> tokens.addAll(List.of(one(persons), "nods", one(persons)));
                case 5 -> tokens.addAll(List.of(one(persons), "veils"));
                case 6 -> tokens.addAll(List.of(one(persons), "tells", one(persons), one(persons)));
                default -> tokens.addAll(List.of("day", "" + (chance(80) ? 1 + random.nextInt(3) : random.nextInt(62))));
            }
            if (lines > 30) {
                // Short LINES, so that a book of 41 fits.
                while (tokens.size() > 0 && !tokens.get(tokens.size() - 1).equals(";")) tokens.remove(tokens.size() - 1);
                tokens.addAll(List.of("day", "1"));
            }
            tokens.add(";");
        }
        String text = padded(join(tokens, 15), 400);
        feed(text);
        int lives = chance(95) ? random.nextInt(2) : random.nextInt(9) - 3;
        due("book(" + lives + ")", real.book(lives), model.book(lives));
        due("fault()", real.fault(), model.fault());
        for (int what = -1; what < 5; what++) due("told(" + what + ")", real.told(what), model.told(what));
    }

    private void tellSentence() {
        List<String> tokens = new ArrayList<>();
        cond(tokens, chance(80) ? 3 : 8);
        if (chance(5)) {
            tokens.clear();
            int ones = 18 + random.nextInt(5);
            for (int k = 0; k < ones; k++) {
                if (k > 0) tokens.add(chance(50) ? "or" : "and");
                tokens.add(chance(50) ? "home" : "fed");
            }
        }
        if (chance(5)) {
            tokens.clear();
            int within = 6 + random.nextInt(4);
            int open = 0;
            for (int k = 0; k < within; k++) {
                if (chance(50)) tokens.add("not");
                else {
                    tokens.add("(");
                    open++;
                }
            }
            tokens.add("sold");
            for (int k = 0; k < open; k++) tokens.add(")");
        }
        feed(padded(join(tokens, 15), 200));
        due("sentence()", real.sentence(), model.sentence());
        due("fault()", real.fault(), model.fault());
        for (int k = -1; k < 3; k++) due("said(" + k + ")", real.said(k), model.said(k));
    }

    private void cond(List<String> tokens, int depth) {
        oneOf(tokens, depth);
        while (chance(35)) {
            tokens.add(chance(50) ? "or" : "and");
            oneOf(tokens, depth);
        }
    }

    private void oneOf(List<String> tokens, int depth) {
        int what = random.nextInt(depth > 0 ? 14 : 10);
        switch (what) {
            case 0 -> tokens.add("home");
            case 1 -> tokens.add("veiled");
            case 2 -> tokens.add("fed");
            case 3 -> tokens.add("sold");
            case 4, 5 -> tokens.addAll(List.of("knows", one(persons)));
            case 6 -> tokens.addAll(List.of("wants", one(goods)));
            case 7, 8, 9 -> tokens.addAll(List.of(List.of("coins", "friends", "hunger", "number").get(random.nextInt(4)),
                    List.of("<", "=", ">").get(random.nextInt(3)), "" + random.nextInt(chance(90) ? 12 : 999)));
            case 10, 11 -> {
                tokens.add("not");
                oneOf(tokens, depth - 1);
            }
            default -> {
                tokens.add("(");
                cond(tokens, depth - 1);
                tokens.add(")");
            }
        }
    }
}
