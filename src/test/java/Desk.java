import java.util.NoSuchElementException;

/** What the hand-written tests share: texts laid on the tape, answers compared, the count of those not as due. */
class Desk {
    private static int tried = 0;
    private static int wrong = 0;

    static final String TOWN = "person ann 10;person bob 5;person cid 0;person dan 0;good bread;good oil;"
            + "sells bob bread 3 2;sells cid bread 1 0;sells dan oil 2 4;wants ann bread 3;wants ann oil 1;"
            + "wants bob oil 2;wants dan bread 1;knows ann cid;knows dan bob;foes bob dan;deals 2;veils 1;bell 3;";

    static void due(String what, long got, long want) {
        tried++;
        if (got != want) {
            wrong++;
            System.out.println(what + " answered " + got + ", due is " + want);
        }
    }

    static void due(String what, boolean got, boolean want) {
        due(what, got ? 1 : 0, want ? 1 : 0);
    }

    static void lay(StrangerMarket x, String text) {
        for (int i = 0; i < text.length(); i += 20) {
            int[] n = new int[5];
            for (int k = 0; k < 20 && i + k < text.length(); k++) {
                n[k / 4] |= text.charAt(i + k) << 24 - 8 * (k % 4);
            }
            x.feed(n[0], n[1], n[2], n[3], n[4]);
        }
        x.end(text.length());
    }

    static int county(StrangerMarket x, String text) {
        lay(x, text);
        return x.county();
    }

    static int book(StrangerMarket x, int lives, String text) {
        lay(x, text);
        return x.book(lives);
    }

    static int sentence(StrangerMarket x, String text) {
        lay(x, text);
        return x.sentence();
    }

    static int who(StrangerMarket x, int... bytes) {
        StringBuilder text = new StringBuilder();
        for (int b : bytes) {
            text.append((char) b);
        }
        lay(x, text.toString());
        return x.who();
    }

    static StrangerMarket town() {
        StrangerMarket x = new StrangerMarket();
        due("county of the town", county(x, TOWN), 19);
        return x;
    }

    static String face(StrangerMarket x, int p) {
        int n = x.face(p);
        StringBuilder text = new StringBuilder();
        for (int i = 0; i < n; i++) {
            text.append((char) x.byteAt(i));
        }
        due("byteAt behind the face", x.byteAt(n), -1);
        return text.toString();
    }

    static void dueFace(StrangerMarket x, int p, String want) {
        String got = face(x, p);
        tried++;
        if (!got.equals(want)) {
            wrong++;
            System.out.println("face(" + p + ") is " + got + ", due is " + want);
        }
    }

    static void dueThrow(StrangerMarket x, int p, int what) {
        int thrown = 0;
        try {
            x.person(p, what);
        } catch (NoSuchElementException e) {
            thrown = 1;
        }
        due("person(" + p + ", " + what + ") throws", thrown, 1);
    }

    static void dueCounty(String text, int place, int kind) {
        StrangerMarket x = new StrangerMarket();
        due("county '" + text + "'", county(x, text), -1 - place);
        due("fault of county '" + text + "'", x.fault(), kind);
        due("persons behind a faulty county", x.count(0), 0);
        due("tape behind a faulty county", x.count(5), 0);
    }

    static void dueBook(String text, int place, int kind) {
        StrangerMarket x = town();
        due("book '" + text + "'", book(x, 1, text), -2 - place);
        due("fault of book '" + text + "'", x.fault(), kind);
        due("told behind a faulty book", x.told(0), -1);
        due("undo behind a faulty book", x.undo(), -1);
        due("tape behind a faulty book", x.count(5), 0);
    }

    static void dueSentence(String text, int place, int kind) {
        StrangerMarket x = town();
        due("sentence 'number=2'", sentence(x, "number=2"), 1);
        due("sentence '" + text + "'", sentence(x, text), -1 - place);
        due("fault of sentence '" + text + "'", x.fault(), kind);
        due("the sentence stays", x.said(0), 2);
        due("tape behind a faulty sentence", x.count(5), 0);
    }

    static void dueSaid(StrangerMarket x, String text, int ones, int... persons) {
        due("sentence '" + text + "'", sentence(x, text), ones);
        due("fault of '" + text + "'", x.fault(), 0);
        due("'" + text + "' how many", x.said(-1), persons.length);
        for (int k = 0; k < persons.length; k++) {
            due("'" + text + "' number " + k, x.said(k), persons[k]);
        }
        due("'" + text + "' one more", x.said(persons.length), -1);
        due("'" + text + "' below NONE", x.said(-2), -1);
    }

    static String stretched(String head, int to, String tail) {
        return head + " ".repeat(to - head.length()) + tail;
    }

    /** All that can be asked of COUNTY, DAY and SENTENCE without changing anything, the tape left out. */
    static String all(StrangerMarket x) {
        StringBuilder text = new StringBuilder();
        int persons = x.count(0);
        int goods = x.count(1);
        for (int what = 0; what < 5; what++) text.append(x.count(what)).append(' ');
        for (int what = 0; what < 8; what++) text.append(x.now(what)).append(' ');
        for (int p = 0; p < persons; p++) {
            for (int what = 0; what < 8; what++) text.append(x.person(p, what)).append(' ');
            for (int g = 0; g < goods; g++) {
                for (int what = 0; what < 3; what++) text.append(x.good(p, g, what)).append(' ');
            }
            for (int q = 0; q < p; q++) text.append(x.deals(p, q)).append(' ');
        }
        for (int k = -1; k < persons; k++) text.append(x.said(k)).append(' ');
        return text.toString();
    }

    static void dueSame(String what, StrangerMarket x, String want) {
        String got = all(x);
        tried++;
        if (!got.equals(want)) {
            wrong++;
            System.out.println(what + ": all is " + got + ", due is " + want);
        }
    }

    static void tellAndExit(String name) {
        System.out.println(name + ": " + tried + " answers, " + wrong + " not as due");
        if (wrong != 0) System.exit(1);
    }
}
