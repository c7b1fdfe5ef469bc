import java.util.ArrayDeque;
import java.util.ArrayList;
import java.util.Arrays;
import java.util.Collections;
import java.util.Comparator;
import java.util.HashMap;
import java.util.HashSet;
import java.util.LinkedHashMap;
import java.util.List;
import java.util.Map;
import java.util.NoSuchElementException;
import java.util.Set;
import java.util.TreeMap;
import java.util.TreeSet;
import java.util.function.IntPredicate;

/**
 * The document a second time, as slow and plain as can be and by other ways than the program
 * (names instead of numbers, rows tried one by one, flows by single steps): ModelTest compares the two.
 */
final class Model {
    static final class Fault extends RuntimeException {
        final int kind;
        final int place;

        Fault(int kind, int place) {
            super(null, null, false, false);
            this.kind = kind;
            this.place = place;
        }
    }

    record Token(String text, int place) {
        boolean isWord() {
            return text.matches("[a-z]{1,7}");
        }

        boolean isNumber() {
            return text.matches("[0-9]{1,3}");
        }
    }

    static final Set<String> RESERVED = Set.of("person", "good", "sells", "wants", "knows", "foes", "deals", "veils",
            "bell", "buys", "nods", "tells", "day", "or", "and", "not", "home", "veiled", "fed", "sold", "coins",
            "friends", "hunger", "number");

    /** What is told and what is so, in one. */
    static final class World {
        List<String> persons = new ArrayList<>();
        List<String> goods = new ArrayList<>();
        Map<String, Integer> toldStock = new TreeMap<>();
        Map<String, Integer> toldWants = new TreeMap<>();
        Map<String, Integer> prices = new TreeMap<>();
        Set<Set<String>> knows = new HashSet<>();
        Set<Set<String>> foes = new HashSet<>();
        int deals = 2;
        int veils = 1;
        int bell = 0;

        int day;
        int bought;
        int veilsLeft = 1;
        Map<String, Integer> coins = new TreeMap<>();
        Map<String, Integer> hunger = new TreeMap<>();
        Map<String, Integer> stock = new TreeMap<>();
        Map<String, Integer> wants = new TreeMap<>();
        Set<Set<String>> met = new HashSet<>();
        Map<Set<String>, Integer> had = new HashMap<>();
        Set<String> home = new TreeSet<>();
        Set<String> veiled = new TreeSet<>();

        World copy() {
            World w = new World();
            w.persons = persons;
            w.goods = goods;
            w.toldStock = toldStock;
            w.toldWants = toldWants;
            w.prices = prices;
            w.knows = knows;
            w.foes = foes;
            w.deals = deals;
            w.veils = veils;
            w.bell = bell;
            w.day = day;
            w.bought = bought;
            w.veilsLeft = veilsLeft;
            w.coins.putAll(coins);
            w.hunger.putAll(hunger);
            w.stock.putAll(stock);
            w.wants.putAll(wants);
            w.met.addAll(met);
            w.had.putAll(had);
            w.home.addAll(home);
            w.veiled.addAll(veiled);
            return w;
        }

        boolean know(String a, String b) {
            return !a.equals(b) && (knows.contains(Set.of(a, b)) || met.contains(Set.of(a, b)));
        }

        boolean may(String a, String b) {
            return !a.equals(b) && (!know(a, b) || foes.contains(Set.of(a, b)));
        }

        int wanting(String a) {
            int sum = 0;
            for (String g : goods) {
                sum += wants.getOrDefault(a + " " + g, 0);
            }
            return sum;
        }

        int buy(String a, String g, String b) {
            if (a.equals(b)) return 1;
            if (home.contains(a) || home.contains(b)) return 2;
            boolean masks = veiled.contains(a) || veiled.contains(b);
            if (!may(a, b) && !masks) return 3;
            if (stock.getOrDefault(b + " " + g, 0) == 0) return 4;
            int price = prices.get(b + " " + g);
            if (price > coins.get(a)) return 5;
            if (wants.getOrDefault(a + " " + g, 0) == 0) return 6;
            stock.merge(b + " " + g, -1, Integer::sum);
            wants.merge(a + " " + g, -1, Integer::sum);
            coins.merge(a, -price, Integer::sum);
            coins.merge(b, price, Integer::sum);
            bought++;
            if (!masks) {
                had.merge(Set.of(a, b), 1, Integer::sum);
                if (had.get(Set.of(a, b)) >= deals) met.add(Set.of(a, b));
            }
            return 0;
        }

        int nod(String a, String b) {
            if (a.equals(b)) return 1;
            if (home.contains(a) || home.contains(b)) return 2;
            if (know(a, b)) return 3;
            met.add(Set.of(a, b));
            home.add(a);
            return 0;
        }

        int veil(String a) {
            if (veiled.contains(a)) return 1;
            if (veilsLeft == 0) return 2;
            veiled.add(a);
            veilsLeft--;
            return 0;
        }

        int tell(String a, String b, String c) {
            if (a.equals(b) || a.equals(c) || b.equals(c)) return 1;
            if (!(know(a, b) && know(a, c))) return 2;
            if (know(b, c)) return 3;
            met.add(Set.of(b, c));
            return 0;
        }

        void nextDay() {
            for (String a : persons) {
                hunger.put(a, Math.min(9999, hunger.get(a) + wanting(a)));
            }
            stock = new TreeMap<>(toldStock);
            wants = new TreeMap<>(toldWants);
            home.clear();
            veiled.clear();
            veilsLeft = veils;
            day++;
            if (bell != 0 && day % bell == 0) {
                met.clear();
                had.clear();
            }
        }

        int drawDays(int n, int seed) {
            int x = seed;
            int gone = 0;
            for (; gone < n && day < 400; gone++) {
                for (int p = 0; p < persons.size(); p++) {
                    x = x * 1103515245 + 12345;
                    int kind = (x >>> 8) % 6;
                    if (kind < 3 && !goods.isEmpty()) {
                        x = x * 1103515245 + 12345;
                        String g = goods.get((x >>> 8) % goods.size());
                        x = x * 1103515245 + 12345;
                        buy(persons.get(p), g, persons.get((x >>> 8) % persons.size()));
                    }
                    if (kind == 3) {
                        x = x * 1103515245 + 12345;
                        nod(persons.get(p), persons.get((x >>> 8) % persons.size()));
                    }
                    if (kind == 4) {
                        veil(persons.get(p));
                    }
                }
                nextDay();
            }
            return gone;
        }
    }

    private final List<Integer> tape = new ArrayList<>();
    private World world = new World();
    private ArrayDeque<World> undos = new ArrayDeque<>();
    private IntPredicate[] sentenceNow;
    private final Map<Integer, World> imageWorlds = new HashMap<>();
    private final Map<Integer, String> imageTexts = new HashMap<>();
    private String sentenceText;
    private int fault;
    private int ask = -1;
    private int serving = -1;
    private List<Integer> links = List.of();
    private int parting = -1;
    private String face = "";
    private int[] told;

    // ---- tokens

    private List<Token> tokens = List.of();
    private int next;
    private boolean tooLong;

    private void tokenise(List<Integer> bytes, int most) {
        StringBuilder all = new StringBuilder();
        for (int b : bytes) {
            all.append((char) b);
        }
        tokenise(all.toString(), most);
    }

    private void tokenise(String text, int most) {
        tokens = new ArrayList<>();
        next = 0;
        int stop = Math.min(text.length(), most);
        tooLong = text.length() > most;
        int i = 0;
        while (i < stop) {
            char c = text.charAt(i);
            if (c == ' ' || c == '\n') {
                i++;
                continue;
            }
            int j = i;
            while (j < text.length() && (Character.toString(text.charAt(j))).matches("[a-z0-9]")) {
                j++;
            }
            if (j == i) {
                j++;
            }
            tokens.add(new Token(text.substring(i, j), i));
            i = j;
        }
        tokens.add(new Token("", stop));
    }

    private Token peek() {
        return tokens.get(next);
    }

    private boolean atEnd() {
        return peek().text.isEmpty();
    }

    private Token take() {
        return tokens.get(next++);
    }

    private void expect(String text) {
        if (!peek().text.equals(text)) {
            throw new Fault(1, peek().place);
        }
        next++;
    }

    private void expectEnd() {
        if (!atEnd() || tooLong) {
            throw new Fault(1, peek().place);
        }
    }

    private int number(int least, int most) {
        Token t = peek();
        if (!t.isNumber()) throw new Fault(1, t.place);
        int n = Integer.parseInt(t.text);
        if (n < least || n > most) throw new Fault(2, t.place);
        next++;
        return n;
    }

    private String name() {
        Token t = peek();
        if (!t.isWord() || RESERVED.contains(t.text)) throw new Fault(1, t.place);
        next++;
        return t.text;
    }

    private String nameOf(List<String> sort) {
        int place = peek().place;
        String n = name();
        if (!sort.contains(n)) throw new Fault(3, place);
        return n;
    }

    // ---- the tape

    int feed(int a, int b, int c, int d, int e) {
        if (tape.size() + 20 > 940) return -1;
        for (int n : new int[] {a, b, c, d, e}) {
            tape.add(n >> 24 & 0xff);
            tape.add(n >> 16 & 0xff);
            tape.add(n >> 8 & 0xff);
            tape.add(n & 0xff);
        }
        return tape.size();
    }

    boolean end(int n) {
        if (n < 0 || n > tape.size()) return false;
        tape.subList(n, tape.size()).clear();
        return true;
    }

    // ---- texts

    int county() {
        List<Integer> bytes = new ArrayList<>(tape);
        tape.clear();
        fault = 0;
        try {
            tokenise(bytes, 900);
            World w = new World();
            Set<String> once = new HashSet<>();
            int lines = 0;
            while (!atEnd()) {
                countyLine(w, once);
                expect(";");
                lines++;
            }
            expectEnd();
            w.stock.putAll(w.toldStock);
            w.wants.putAll(w.toldWants);
            w.veilsLeft = w.veils;
            world = w;
            undos = new ArrayDeque<>();
            sentenceNow = null;
            sentenceText = null;
            return lines;
        } catch (Fault f) {
            fault = f.kind;
            return -1 - f.place;
        }
    }

    private void countyLine(World w, Set<String> once) {
        Token head = take();
        switch (head.text) {
            case "person" -> {
                if (w.persons.size() == 7) throw new Fault(4, head.place);
                String n = newName(w);
                w.persons.add(n);
                w.coins.put(n, number(0, 99));
                w.hunger.put(n, 0);
            }
            case "good" -> {
                if (w.goods.size() == 5) throw new Fault(4, head.place);
                w.goods.add(newName(w));
            }
            case "sells", "wants" -> {
                String p = nameOf(w.persons);
                int place = peek().place;
                String key = p + " " + nameOf(w.goods);
                if (w.toldStock.containsKey(key) || w.toldWants.containsKey(key)) throw new Fault(3, place);
                int n = number(1, 9);
                if (head.text.equals("wants")) {
                    w.toldWants.put(key, n);
                } else {
                    w.toldStock.put(key, n);
                    w.prices.put(key, number(0, 20));
                }
            }
            case "knows", "foes" -> {
                String p = nameOf(w.persons);
                int place = peek().place;
                String q = nameOf(w.persons);
                if (p.equals(q)) throw new Fault(3, place);
                if (!(head.text.equals("knows") ? w.knows : w.foes).add(Set.of(p, q))) throw new Fault(3, place);
            }
            case "deals", "veils", "bell" -> {
                if (!once.add(head.text)) throw new Fault(3, head.place);
                if (head.text.equals("deals")) w.deals = number(1, 9);
                if (head.text.equals("veils")) w.veils = number(0, 9);
                if (head.text.equals("bell")) w.bell = number(2, 30);
            }
            default -> throw new Fault(1, head.place);
        }
    }

    private String newName(World w) {
        int place = peek().place;
        String n = name();
        if (w.persons.contains(n) || w.goods.contains(n)) throw new Fault(3, place);
        return n;
    }

    int fault() {
        return fault;
    }

    int book(int lives) {
        if (lives < 0 || lives > 1) return -1000;
        List<Integer> bytes = new ArrayList<>(tape);
        tape.clear();
        fault = 0;
        List<List<Object>> lines = new ArrayList<>();
        try {
            tokenise(bytes, 400);
            while (!atEnd()) {
                List<Object> line = new ArrayList<>();
                int place = peek().place;
                if (peek().text.equals("day")) line.add(take().text);
                else line.add(nameOf(world.persons));
                if (lines.size() == 40) throw new Fault(4, place);
                if (line.get(0).equals("day")) line.add(number(1, 60));
                else bookAct(line);
                expect(";");
                lines.add(line);
            }
            expectEnd();
        } catch (Fault f) {
            fault = f.kind;
            return -2 - f.place;
        }
        World w = world.copy();
        int k = 0;
        int why = 0;
        for (; k < lines.size(); k++) {
            why = live(w, lines.get(k));
            if (why != 0) break;
        }
        told = new int[] {why, k, w.day, bits(p -> w.wanting(world.persons.get(p)) == 0)};
        if (lives == 1 && k > 0) {
            keep();
            world = w;
        }
        return why == 0 ? -1 : k;
    }

    private void bookAct(List<Object> line) {
        Token act = take();
        line.add(act.text);
        switch (act.text) {
            case "buys" -> {
                line.add(nameOf(world.goods));
                line.add(nameOf(world.persons));
            }
            case "nods" -> line.add(nameOf(world.persons));
            case "veils" -> { }
            case "tells" -> {
                line.add(nameOf(world.persons));
                line.add(nameOf(world.persons));
            }
            default -> throw new Fault(1, act.place);
        }
    }

    private static int live(World w, List<Object> line) {
        String p = (String) line.get(0);
        if (p.equals("day")) {
            int n = (Integer) line.get(1);
            if (w.day + n > 400) return 41;
            for (int k = 0; k < n; k++) w.nextDay();
            return 0;
        }
        int base = 0;
        int why = 0;
        switch ((String) line.get(1)) {
            case "buys" -> why = w.buy(p, (String) line.get(2), (String) line.get(3));
            case "nods" -> {
                base = 10;
                why = w.nod(p, (String) line.get(2));
            }
            case "veils" -> {
                base = 20;
                why = w.veil(p);
            }
            default -> {
                base = 30;
                why = w.tell(p, (String) line.get(2), (String) line.get(3));
            }
        }
        return why == 0 ? 0 : base + why;
    }

    int told(int what) {
        return told == null || what < 0 || what > 3 ? -1 : told[what];
    }

    private int ones;

    int sentence() {
        StringBuilder all = new StringBuilder();
        for (int b : tape) {
            all.append((char) b);
        }
        tape.clear();
        fault = 0;
        try {
            tokenise(all.toString(), 200);
            ones = 0;
            IntPredicate p = cond(1);
            expectEnd();
            sentenceNow = new IntPredicate[] {p};
            sentenceText = all.toString();
            return ones;
        } catch (Fault f) {
            fault = f.kind;
            return -1 - f.place;
        }
    }

    private IntPredicate cond(int level) {
        IntPredicate left = all(level);
        while (peek().text.equals("or")) {
            next++;
            left = left.or(all(level));
        }
        return left;
    }

    private IntPredicate all(int level) {
        IntPredicate left = one(level);
        while (peek().text.equals("and")) {
            next++;
            left = left.and(one(level));
        }
        return left;
    }

    private static final List<String> BEGINS = List.of("not", "(", "home", "veiled", "fed", "sold", "knows", "wants",
            "coins", "friends", "hunger", "number");

    private IntPredicate one(int level) {
        Token t = take();
        if (!BEGINS.contains(t.text)) throw new Fault(1, t.place);
        if (++ones > 20 || level > 8) throw new Fault(4, t.place);
        switch (t.text) {
            case "not": return one(level + 1).negate();
            case "(": {
                IntPredicate in = cond(level + 1);
                expect(")");
                return in;
            }
            case "home": return p -> world.home.contains(world.persons.get(p));
            case "veiled": return p -> world.veiled.contains(world.persons.get(p));
            case "fed": return p -> world.wanting(world.persons.get(p)) == 0;
            case "sold": return this::isSold;
            case "knows": {
                String q = nameOf(world.persons);
                return p -> world.know(world.persons.get(p), q);
            }
            case "wants": {
                String g = nameOf(world.goods);
                return p -> world.wants.getOrDefault(world.persons.get(p) + " " + g, 0) > 0;
            }
            default: return compare(t.text);
        }
    }

    private boolean isSold(int p) {
        String n = world.persons.get(p);
        boolean any = false;
        for (String g : world.goods) {
            if (!world.toldStock.containsKey(n + " " + g)) continue;
            any = true;
            if (world.stock.get(n + " " + g) > 0) return false;
        }
        return any;
    }

    private IntPredicate compare(String what) {
        Token sign = take();
        if (!List.of("<", "=", ">").contains(sign.text)) throw new Fault(1, sign.place);
        int n = number(0, 999);
        return p -> {
            String name = world.persons.get(p);
            int found = switch (what) {
                case "coins" -> world.coins.get(name);
                case "hunger" -> world.hunger.get(name);
                case "number" -> p;
                default -> Integer.bitCount(bits(q -> world.know(name, world.persons.get(q))));
            };
            return sign.text.equals("<") ? found < n : sign.text.equals("=") ? found == n : found > n;
        };
    }

    int said(int k) {
        if (sentenceNow == null) return -1;
        List<Integer> who = new ArrayList<>();
        for (int p = 0; p < world.persons.size(); p++) {
            if (sentenceNow[0].test(p)) who.add(p);
        }
        if (k == -1) return who.size();
        return k >= 0 && k < who.size() ? who.get(k) : -1;
    }

    // ---- what is so

    private boolean isPerson(int... ps) {
        return Arrays.stream(ps).allMatch(p -> p >= 0 && p < world.persons.size());
    }

    private boolean isGood(int g) {
        return g >= 0 && g < world.goods.size();
    }

    private String name(int p) {
        return world.persons.get(p);
    }

    private int bits(IntPredicate test) {
        int sum = 0;
        for (int p = 0; p < world.persons.size(); p++) {
            if (test.test(p)) sum += (int) Math.pow(2, p);
        }
        return sum;
    }

    int person(int p, int what) {
        if (!isPerson(p) || what < 0 || what > 7) throw new NoSuchElementException();
        String n = name(p);
        return switch (what) {
            case 0 -> world.coins.get(n);
            case 1 -> bits(q -> world.know(n, name(q)));
            case 2 -> bits(q -> q != p && world.foes.contains(Set.of(n, name(q))));
            case 3 -> bits(q -> world.may(n, name(q)));
            case 4 -> world.home.contains(n) ? 1 : 0;
            case 5 -> world.veiled.contains(n) ? 1 : 0;
            case 6 -> world.hunger.get(n);
            default -> world.wanting(n);
        };
    }

    int good(int p, int g, int what) {
        if (!isPerson(p) || !isGood(g) || what < 0 || what > 2) return -1;
        String key = name(p) + " " + world.goods.get(g);
        if (what == 2) return world.prices.getOrDefault(key, -1);
        return (what == 0 ? world.stock : world.wants).getOrDefault(key, 0);
    }

    int deals(int p, int q) {
        if (!isPerson(p, q) || p == q) return -1;
        return world.had.getOrDefault(Set.of(name(p), name(q)), 0);
    }

    int now(int what) {
        return switch (what) {
            case 0 -> world.day;
            case 1 -> bits(p -> world.home.contains(name(p)));
            case 2 -> bits(p -> world.veiled.contains(name(p)));
            case 3 -> bits(p -> world.wanting(name(p)) == 0);
            case 4 -> world.veilsLeft;
            case 5 -> world.bought;
            case 6 -> world.met.size();
            case 7 -> world.hunger.values().stream().mapToInt(h -> h).sum();
            default -> -1;
        };
    }

    int count(int what) {
        return switch (what) {
            case 0 -> world.persons.size();
            case 1 -> world.goods.size();
            case 2 -> world.deals;
            case 3 -> world.veils;
            case 4 -> world.bell;
            case 5 -> tape.size();
            default -> -1;
        };
    }

    // ---- acts

    private void keep() {
        undos.addLast(world.copy());
        if (undos.size() > 8) undos.removeFirst();
    }

    private int act(World tried, int why) {
        if (why == 0) {
            keep();
            world = tried;
        }
        return why;
    }

    int buy(int p, int g, int q) {
        if (!isPerson(p, q) || !isGood(g)) return -1;
        World w = world.copy();
        return act(w, w.buy(name(p), world.goods.get(g), name(q)));
    }

    int nod(int p, int q) {
        if (!isPerson(p, q)) return -1;
        World w = world.copy();
        return act(w, w.nod(name(p), name(q)));
    }

    int veil(int p) {
        if (!isPerson(p)) return -1;
        World w = world.copy();
        return act(w, w.veil(name(p)));
    }

    int tell(int p, int q, int r) {
        if (!isPerson(p, q, r)) return -1;
        World w = world.copy();
        return act(w, w.tell(name(p), name(q), name(r)));
    }

    int days(int n) {
        if (n < 1 || n > 60) return -1;
        World w = world.copy();
        int gone = 0;
        while (gone < n && w.day < 400) {
            w.nextDay();
            gone++;
        }
        if (gone > 0) act(w, 0);
        return gone;
    }

    int drawn(int n, int seed) {
        if (n < 1 || n > 60) return -1;
        World w = world.copy();
        int gone = w.drawDays(n, seed);
        if (gone > 0) act(w, 0);
        return gone;
    }

    int odds(int p, int n, int seed) {
        if (!isPerson(p) || n < 1 || n > 30) return -1;
        int more = 0;
        for (int k = 0; k < n; k++) {
            World w = world.copy();
            w.drawDays(10, seed + k);
            if (w.coins.get(name(p)) > world.coins.get(name(p))) more++;
        }
        return more;
    }

    int undo() {
        if (undos.isEmpty()) return -1;
        world = undos.removeLast();
        return undos.size();
    }

    // ---- questions

    /** The flow by single coins of goods: each step looks for any way through the net that is left. */
    int most(int g) {
        if (!isGood(g)) return -1;
        int n = world.persons.size();
        int source = n;
        int sink = n + 1;
        int[][] left = new int[n + 2][n + 2];
        for (int p = 0; p < n; p++) {
            left[source][p] = world.stock.getOrDefault(name(p) + " " + world.goods.get(g), 0);
            left[p][sink] = world.wants.getOrDefault(name(p) + " " + world.goods.get(g), 0);
            for (int q = 0; q < n; q++) {
                boolean wants = world.wants.getOrDefault(name(q) + " " + world.goods.get(g), 0) > 0;
                if (left[source][p] == 0 || p == q || !wants) continue;
                Set<String> pair = Set.of(name(p), name(q));
                if (world.foes.contains(pair)) left[p][q] = 100000;
                else if (world.may(name(p), name(q))) left[p][q] = world.deals - world.had.getOrDefault(pair, 0);
            }
        }
        int flow = 0;
        while (push(left, source, sink, new HashSet<>())) flow++;
        return flow;
    }

    private static boolean push(int[][] left, int from, int sink, Set<Integer> seen) {
        if (from == sink) return true;
        if (!seen.add(from)) return false;
        for (int to = 0; to < left.length; to++) {
            if (left[from][to] > 0 && push(left, to, sink, seen)) {
                left[from][to]--;
                left[to][from]++;
                return true;
            }
        }
        return false;
    }

    int who() {
        List<Integer> bytes = new ArrayList<>(tape);
        tape.clear();
        if (bytes.isEmpty() || bytes.size() > 16 || bytes.size() % 2 == 1) return -1;
        Map<Integer, Set<Integer>> hints = new LinkedHashMap<>();
        for (int k = 0; k < bytes.size(); k += 2) {
            if (!isPerson(bytes.get(k)) || bytes.get(k + 1) > 1) return -1;
            hints.computeIfAbsent(bytes.get(k), x -> new TreeSet<>()).add(bytes.get(k + 1));
        }
        List<Integer> masked = new ArrayList<>();
        for (int c = 0; c < world.persons.size(); c++) {
            boolean can = !hints.containsKey(c);
            for (Map.Entry<Integer, Set<Integer>> hint : hints.entrySet()) {
                can &= hint.getValue().equals(Set.of(world.may(name(c), name(hint.getKey())) ? 1 : 0));
            }
            if (can) masked.add(c);
        }
        if (!masked.isEmpty()) {
            int least = 99;
            for (int p = 0; p < world.persons.size(); p++) {
                int yes = 0;
                for (int c : masked) {
                    if (world.may(name(c), name(p))) yes++;
                }
                int worst = Math.max(yes, masked.size() - yes);
                if (worst < least) {
                    least = worst;
                    ask = p;
                }
            }
        }
        return bits(masked::contains);
    }

    int ask() {
        return ask;
    }

    int serve(int g) {
        if (!isGood(g)) return -1;
        List<Integer> sets = setsByCount();
        String good = world.goods.get(g);
        for (int set : sets) {
            boolean fits = true;
            for (int p = 0; p < world.persons.size(); p++) {
                if ((set >> p) % 2 == 1 && !world.toldStock.containsKey(name(p) + " " + good)) fits = false;
                if (!world.toldWants.containsKey(name(p) + " " + good)) continue;
                boolean served = false;
                for (int q = 0; q < world.persons.size(); q++) {
                    if ((set >> q) % 2 == 1 && world.may(name(p), name(q))) served = true;
                }
                fits &= served;
            }
            if (fits) {
                serving = set;
                return Integer.bitCount(set);
            }
        }
        return -1;
    }

    private List<Integer> setsByCount() {
        List<Integer> sets = new ArrayList<>();
        for (int set = 0; set < 1 << world.persons.size(); set++) {
            sets.add(set);
        }
        sets.sort(Comparator.<Integer>comparingInt(Integer::bitCount).thenComparing(Comparator.naturalOrder()));
        return sets;
    }

    int serving() {
        return serving;
    }

    int chain(int p, int q) {
        if (!isPerson(p, q) || p == q) return -1;
        List<List<Integer>> rows = new ArrayList<>();
        gather(new ArrayList<>(List.of(p)), q, rows);
        if (rows.isEmpty()) return -1;
        rows.sort(Comparator.comparingInt(List<Integer>::size).thenComparing(Object::toString));
        List<Integer> best = rows.get(0);
        links = best.subList(1, best.size() - 1);
        return links.size();
    }

    private void gather(List<Integer> row, int q, List<List<Integer>> rows) {
        int last = row.get(row.size() - 1);
        if (last == q) {
            rows.add(new ArrayList<>(row));
            return;
        }
        for (int r = 0; r < world.persons.size(); r++) {
            if (!row.contains(r) && world.may(name(last), name(r))) {
                row.add(r);
                gather(row, q, rows);
                row.remove(row.size() - 1);
            }
        }
    }

    int chainAt(int k) {
        return k >= 0 && k < links.size() ? links.get(k) : -1;
    }

    /** Days of spreading, counted until nothing changes. */
    int out(int p) {
        if (!isPerson(p)) return -1;
        Set<Integer> in = new HashSet<>(Set.of(p));
        for (int gone = 0; ; gone++) {
            if (in.size() == world.persons.size()) return gone;
            Set<Integer> more = new HashSet<>(in);
            for (int a : in) {
                for (int b = 0; b < world.persons.size(); b++) {
                    if (world.know(name(a), name(b))) more.add(b);
                }
            }
            if (more.equals(in)) return -1;
            in = more;
        }
    }

    int apart(int p, int q) {
        if (!isPerson(p, q) || p == q || world.know(name(p), name(q))) return -1;
        for (int set : setsByCount()) {
            if ((set >> p) % 2 == 1 || (set >> q) % 2 == 1) continue;
            Set<Integer> gone = new HashSet<>();
            for (int r = 0; r < 7; r++) {
                if ((set >> r) % 2 == 1) gone.add(r);
            }
            if (!walks(p, q, gone)) {
                parting = set;
                return gone.size();
            }
        }
        throw new IllegalStateException();
    }

    private boolean walks(int p, int q, Set<Integer> gone) {
        if (p == q) return true;
        Set<Integer> more = new HashSet<>(gone);
        more.add(p);
        for (int r = 0; r < world.persons.size(); r++) {
            if (!more.contains(r) && world.know(name(p), name(r)) && walks(r, q, more)) return true;
        }
        return false;
    }

    int parting() {
        return parting;
    }

    int recluse() {
        if (world.persons.isEmpty()) return -1;
        List<Integer> all = new ArrayList<>();
        for (int p = 0; p < world.persons.size(); p++) {
            all.add(p);
        }
        return Collections.min(all, Comparator.comparingInt(
                p -> Integer.bitCount(bits(q -> world.know(name(p), name(q))))));
    }

    int face(int p) {
        if (!isPerson(p)) return -1;
        List<String> friends = new ArrayList<>();
        for (String n : world.persons) {
            if (world.know(name(p), n)) friends.add(n);
        }
        face = name(p) + " knows " + (friends.isEmpty() ? "nobody" : String.join(" ", friends))
                + (world.veiled.contains(name(p)) ? " veiled" : "") + (world.home.contains(name(p)) ? " home" : "");
        return face.length();
    }

    int byteAt(int i) {
        return i >= 0 && i < face.length() ? face.charAt(i) : -1;
    }

    // ---- images

    boolean image(int k) {
        if (k != 0 && k != 1) return false;
        imageWorlds.put(k, world.copy());
        imageTexts.put(k, sentenceText);
        return true;
    }

    boolean restore(int k) {
        if (!imageWorlds.containsKey(k)) return false;
        world = imageWorlds.get(k).copy();
        undos.clear();
        sentenceNow = null;
        sentenceText = imageTexts.get(k);
        if (sentenceText != null) {
            tokenise(sentenceText, 200);
            ones = 0;
            sentenceNow = new IntPredicate[] {cond(1)};
        }
        return true;
    }
}
