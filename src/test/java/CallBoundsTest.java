/**
 * Every bound that the document names for what persons do and for its calls, in its order: the last that is as told,
 * and the first on either side that is not. The words that are tested stand ahead of each method.
 */
final class CallBoundsTest extends Desk {
    private static final int LEAST = Integer.MIN_VALUE;
    private static final int MOST = Integer.MAX_VALUE;
    private static final int[] NO_PERSON = {LEAST, -2, -1, 4, 5, 6, 7, 8, 32, 255, MOST};
    private static final int[] NO_GOOD = {LEAST, -1, 2, 3, 4, 5, 32, MOST};
    private static final String SEVEN = "person a 1;person b 1;person c 1;person d 1;person e 1;person f 1;person g 1;";

    public static void main(String[] args) {
        nothingInNew();
        feedTwenty();
        endFirst();
        countyStaysOrGoes();
        faultOfLatest();
        noSuchOnes();
        buyEdges();
        buyLeast();
        buyDeals();
        nodEdges();
        veilEdges();
        tellEdges();
        daysOneToSixty();
        dayGoes();
        bellDivides();
        hungerAtMost();
        undoEightKept();
        undoOfEach();
        mostEdges();
        whoPairs();
        askLatest();
        serveFewest();
        chainFewest();
        outDays();
        apartFewest();
        recluseFirst();
        faceBytes();
        drawnDays();
        drawsWrap();
        oddsSeeds();
        bookLives();
        bookDaysLeft();
        toldOfLatest();
        saidOfWhom();
        imagePlaces();
        restoreAll();
        counts();
        tellAndExit("CallBoundsTest");
    }

    private static StrangerMarket of(String text) {
        StrangerMarket x = new StrangerMarket();
        due("county '" + text + "' has lines", county(x, text) > 0, true);
        return x;
    }

    private static void passTo(StrangerMarket x, int day) {
        for (int k = 0; k < 7 && x.now(0) < day; k++) x.days(Math.min(60, day - x.now(0)));
        due("the day", x.now(0), day);
    }

    // Promise 1: "A COUNTY without PERSONS; an empty tape."
    private static void nothingInNew() {
        StrangerMarket x = new StrangerMarket();
        String before = all(x);
        due("no bytes", x.count(5), 0);
        due("no persons", x.count(0), 0);
        due("no goods", x.count(1), 0);
        dueThrow(x, 0, 0);
        due("good", x.good(0, 0, 0), -1);
        due("deals", x.deals(0, 1), -1);
        due("buy", x.buy(0, 0, 1), -1);
        due("nod", x.nod(0, 1), -1);
        due("veil", x.veil(0), -1);
        due("tell", x.tell(0, 1, 2), -1);
        due("undo", x.undo(), -1);
        due("most", x.most(0), -1);
        due("who", x.who(), -1);
        due("ask", x.ask(), -1);
        due("serve", x.serve(0), -1);
        due("serving", x.serving(), -1);
        due("chain", x.chain(0, 1), -1);
        due("chainAt", x.chainAt(0), -1);
        due("out", x.out(0), -1);
        due("apart", x.apart(0, 1), -1);
        due("parting", x.parting(), -1);
        due("recluse", x.recluse(), -1);
        due("face", x.face(0), -1);
        due("byteAt", x.byteAt(0), -1);
        due("odds", x.odds(0, 1, 1), -1);
        due("told", x.told(0), -1);
        due("said", x.said(-1), -1);
        due("fault", x.fault(), 0);
        due("restore 0", x.restore(0), false);
        due("restore 1", x.restore(1), false);
        dueSame("nothing changed", x, before);
        due("a book without lines", x.book(1), -1);
        due("nothing lived", x.undo(), -1);
        due("no sentence", x.sentence(), -1);
        due("fault", x.fault(), 1);
        due("a county without lines", x.county(), 0);
        due("fault", x.fault(), 0);
        due("drawn without persons", x.drawn(60, 9), 60);
        due("day", x.now(0), 60);
        due("undo", x.undo(), 0);
        due("day", x.now(0), 0);
    }

    // Promise 2: "NONE, and none come, if it would have more than 940"
    private static void feedTwenty() {
        StrangerMarket x = new StrangerMarket();
        for (int n = 20; n <= 940; n += 20) due("feed", x.feed(0x20202020, 0x20202020, 0x20202020, 0x20202020, 0x20202020), n);
        due("feed of a full tape", x.feed(0, 0, 0, 0, 0), -1);
        due("none come", x.count(5), 940);
        for (int n = 921; n < 940; n++) {
            x.end(n);
            due("feed at " + n, x.feed(0, 0, 0, 0, 0), -1);
            due("none come", x.count(5), n);
            x.end(920);
            due("feed at 920", x.feed(0x20202020, 0x20202020, 0x20202020, 0x20202020, 0x20202020), 940);
        }
        x.end(919);
        due("feed at 919", x.feed(0x20202020, 0x20202020, 0x20202020, 0x20202020, 0x20202020), 939);
        due("feed at 939", x.feed(0, 0, 0, 0, 0), -1);
        x.end(900);
        due("all are blanks", x.county(), 0);
        due("the tape is empty", x.count(5), 0);
        due("feed anew", x.feed(0x70657273, 0x6f6e2061, 0x2039393b, 0x70657273, 0x6f6e2062), 20);
        due("feed on", x.feed(0x2031373b, 0xffffffff, LEAST, MOST, 0), 40);
        due("end", x.end(24), true);
        due("the highest first", x.county(), 2);
        due("coins", x.person(0, 0), 99);
        due("coins", x.person(1, 0), 17);
    }

    // Promise 3: "false, if it has not so many, or n is below 0"
    private static void endFirst() {
        StrangerMarket x = new StrangerMarket();
        due("end(0) of none", x.end(0), true);
        due("end(1) of none", x.end(1), false);
        due("end(-1) of none", x.end(-1), false);
        x.feed(0x6465616c, 0x7320333b, 0x3f3f3f3f, 0x3f3f3f3f, 0x3f3f3f3f);
        due("end(21)", x.end(21), false);
        due("end(MOST)", x.end(MOST), false);
        due("end(-1)", x.end(-1), false);
        due("end(LEAST)", x.end(LEAST), false);
        due("it stays", x.count(5), 20);
        due("end(20)", x.end(20), true);
        due("it stays", x.count(5), 20);
        due("end(19)", x.end(19), true);
        due("end(20) of 19", x.end(20), false);
        due("end(8)", x.end(8), true);
        due("eight", x.count(5), 8);
        due("end(9) of 8", x.end(9), false);
        due("feed behind it", x.feed(0x7665696c, 0x7320343b, 0x3f3f3f3f, 0, 0), 28);
        due("end(16)", x.end(16), true);
        due("county", x.county(), 2);
        due("deals", x.count(2), 3);
        due("veils", x.count(3), 4);
    }

    // Promise 4: "how many LINES; -1 less the place of a FAULT: it stays"; "A new COUNTY: DAY 0, none MET, no DEALS .."
    private static void countyStaysOrGoes() {
        StrangerMarket x = town();
        sentence(x, "fed");
        x.buy(0, 0, 1);
        x.nod(2, 1);
        x.days(2);
        x.veil(3);
        String before = all(x);
        due("fault in the first line", county(x, "?"), -1);
        dueSame("it stays", x, before);
        due("fault in the last line", county(x, "person zed 9;good milk;sells zed milk 9 9;deals 9;veils 9;bell 9;knows zed zed;"), -76);
        due("fault", x.fault(), 3);
        dueSame("it stays", x, before);
        due("acts can be undone still", x.undo(), 3);
        due("the same county anew", county(x, TOWN), 19);
        due("day", x.now(0), 0);
        due("met", x.now(6), 0);
        due("deals", x.deals(0, 1), 0);
        due("hunger", x.now(7), 0);
        due("home", x.now(1), 0);
        due("veiled", x.now(2), 0);
        due("veils", x.now(4), 1);
        due("bought", x.now(5), 0);
        due("coins", x.person(0, 0), 10);
        due("stock", x.good(1, 0, 0), 3);
        due("sentence", x.said(-1), -1);
        due("as a new one", x.undo(), -1);
        dueSame("as a new one", x, all(town()));
        due("a county without lines", county(x, ""), 0);
        due("persons", x.count(0), 0);
        dueSame("as a new object", x, all(new StrangerMarket()));
    }

    // Promise 5: "0 without one and ahead of any"; "a book() of -1000 leaves it"
    private static void faultOfLatest() {
        StrangerMarket x = new StrangerMarket();
        due("ahead of any", x.fault(), 0);
        x.book(2);
        due("ahead of any", x.fault(), 0);
        county(x, "deals 0;");
        due("of the county", x.fault(), 2);
        lay(x, "day 1;");
        x.book(-1);
        due("left by -1000", x.fault(), 2);
        x.who();
        due("left by who", x.fault(), 2);
        sentence(x, "knows a");
        due("of the sentence", x.fault(), 3);
        book(x, 1, "day 1;".repeat(41));
        due("of the book", x.fault(), 4);
        book(x, 0, "?");
        due("of the book", x.fault(), 1);
        book(x, 0, "day 1;");
        due("without one", x.fault(), 0);
        sentence(x, "");
        due("of the sentence", x.fault(), 1);
        sentence(x, "fed");
        due("without one", x.fault(), 0);
        county(x, ";");
        due("of the county", x.fault(), 1);
        county(x, TOWN);
        due("without one", x.fault(), 0);
        // A LINE that is WRONG is no FAULT.
        due("wrong", book(x, 0, "ann nods ann;"), 0);
        due("without one", x.fault(), 0);
    }

    // "NONE: no such ones" of promises 6 to 13, 16, 19, 21, 23, 24, 27, 30; "A call that throws changes nothing."
    private static void noSuchOnes() {
        StrangerMarket x = town();
        String before = all(x);
        for (int p : NO_PERSON) {
            dueThrow(x, p, 0);
            dueThrow(x, p, 7);
            due("good", x.good(p, 0, 0), -1);
            due("deals", x.deals(p, 0), -1);
            due("deals", x.deals(0, p), -1);
            due("deals", x.deals(p, p), -1);
            due("buy", x.buy(p, 0, 1), -1);
            due("buy", x.buy(0, 0, p), -1);
            due("buy", x.buy(p, 0, p), -1);
            due("nod", x.nod(p, 0), -1);
            due("nod", x.nod(0, p), -1);
            due("nod", x.nod(p, p), -1);
            due("veil", x.veil(p), -1);
        }
        dueSame("nothing changed", x, before);
        for (int p : NO_PERSON) {
            due("tell", x.tell(p, 0, 2), -1);
            due("tell", x.tell(0, p, 2), -1);
            due("tell", x.tell(0, 2, p), -1);
            due("tell", x.tell(p, p, p), -1);
            due("chain", x.chain(p, 0), -1);
            due("chain", x.chain(0, p), -1);
            due("apart", x.apart(p, 0), -1);
            due("apart", x.apart(0, p), -1);
            due("out", x.out(p), -1);
            due("face", x.face(p), -1);
            due("odds", x.odds(p, 1, 1), -1);
        }
        x = town();
        for (int g : NO_GOOD) {
            due("good", x.good(0, g, 0), -1);
            due("buy", x.buy(0, g, 1), -1);
            due("buy", x.buy(0, g, 0), -1);
            due("most", x.most(g), -1);
            due("serve", x.serve(g), -1);
        }
        for (int what : new int[] {LEAST, -1, 8, 9, MOST}) {
            dueThrow(x, 0, what);
            dueThrow(x, 3, what);
            dueThrow(x, 4, what);
            due("now", x.now(what), -1);
        }
        for (int what : new int[] {LEAST, -1, 3, 4, MOST}) due("good", x.good(1, 0, what), -1);
        for (int what : new int[] {LEAST, -1, 6, 7, MOST}) due("count", x.count(what), -1);
        for (int p = 0; p < 4; p++) due("deals of the alike", x.deals(p, p), -1);
        due("the last", x.person(3, 7), 1);
        due("the last", x.good(3, 1, 2), 4);
        due("the last", x.deals(3, 2), 0);
        dueSame("nothing changed", x, before);
        due("nothing can be undone", x.undo(), -1);
    }

    // "4 .. has none of it left; 5 it costs more coins than he has; 6 he does not want it (any more today)"
    private static void buyEdges() {
        StrangerMarket x = of("person a 5;person b 99;good g;good h;good i;sells b g 9 5;sells b h 1 0;sells b i 2 6;wants a g 9;wants a h 2;wants a i 1;deals 9;veils 0;");
        due("one coin too dear", x.buy(0, 2, 1), 5);
        due("just as dear", x.buy(0, 0, 1), 0);
        due("no coins", x.person(0, 0), 0);
        due("coins without a most", x.person(1, 0), 104);
        due("too dear", x.buy(0, 0, 1), 5);
        due("for nothing", x.buy(0, 1, 1), 0);
        due("the last of the stock", x.good(1, 1, 0), 0);
        due("none left", x.buy(0, 1, 1), 4);
        due("wanted still", x.good(0, 1, 1), 1);
        due("bought", x.now(5), 2);
        due("stock is there anew", x.days(1), 1);
        due("for nothing", x.buy(0, 1, 1), 0);
        due("coins stay", x.person(1, 0), 104);
        x = of("person a 99;person b 0;person c 0;good g;sells b g 9 1;sells c g 9 1;wants a g 2;deals 9;");
        due("first", x.buy(0, 0, 1), 0);
        due("not fed", x.now(3), 6);
        due("second", x.buy(0, 0, 2), 0);
        due("fed", x.now(3), 7);
        due("not any more today", x.buy(0, 0, 1), 6);
        due("never", x.buy(1, 0, 2), 6);
        due("days", x.days(1), 1);
        due("anew", x.buy(0, 0, 1), 0);
        due("never", x.buy(1, 0, 2), 6);
        due("goods do not go on: the buyer sells none", x.buy(2, 0, 0), 4);
    }

    // "why not, the least": each reason where the next ones hold, too
    private static void buyLeast() {
        // a: at HOME, knows b; b sells at 9 what is sold out; c has coins and wants all.
        StrangerMarket x = of("person a 0;person b 0;person c 99;person d 0;good g;good h;sells b g 1 9;sells d g 2 9;wants c g 9;knows a b;knows a d;veils 2;deals 9;");
        due("3, 5, 6", x.buy(0, 0, 1), 3);
        due("3, 4, 6", x.buy(0, 1, 1), 3);
        due("5, 6", x.buy(1, 0, 3), 5);
        due("4, 6", x.buy(1, 1, 3), 4);
        due("0", x.buy(2, 0, 1), 0);
        due("4, though he wants it and has coins", x.buy(2, 0, 1), 4);
        due("4, 5, 6", x.buy(3, 0, 1), 4);
        due("3, 4, 5, 6", x.buy(0, 0, 1), 3);
        due("nod", x.nod(0, 2), 0);
        due("2, 3, 4, 5, 6 of the buyer", x.buy(0, 0, 1), 2);
        due("2, 3, 4, 5, 6 of the seller", x.buy(1, 0, 0), 2);
        due("1, 2", x.buy(0, 0, 0), 1);
        due("1", x.buy(1, 0, 1), 1);
        due("veil", x.veil(0), 0);
        due("2 behind a veil", x.buy(0, 0, 1), 2);
        due("days", x.days(1), 1);
        due("3", x.buy(0, 0, 1), 3);
        due("veil of the buyer", x.veil(0), 0);
        due("3 no more: 5", x.buy(0, 0, 1), 5);
        due("3 no more: 4", x.buy(0, 1, 1), 4);
        due("a veil of a third is none", x.nod(2, 3), 0);
        due("days", x.days(1), 1);
        due("veil of the third", x.veil(1), 0);
        due("3 of the others", x.buy(2, 0, 3), 3);
        due("3 no more: 5, the seller is veiled", x.buy(0, 0, 1), 5);
        String before = all(x);
        for (int p = 0; p < 4; p++) {
            due("1 of all goods", x.buy(p, 0, p), 1);
            due("1 of all goods", x.buy(p, 1, p), 1);
        }
        dueSame("a refused call changes nothing", x, before);
    }

    // "if these are as many as 'deals' tells then, or more, they MET"; "if neither is VEILED"
    private static void buyDeals() {
        for (int deals = 1; deals <= 9; deals++) {
            StrangerMarket x = of("person a 0;person b 0;good g;sells b g 9 0;wants a g 9;deals " + deals + ";");
            for (int k = 1; k <= 9; k++) {
                boolean may = k <= deals;
                due("buy " + k + " of " + deals, x.buy(0, 0, 1), may ? 0 : 3);
                due("deals", x.deals(0, 1), Math.min(k, deals));
                due("deals", x.deals(1, 0), Math.min(k, deals));
                due("met", x.now(6), k >= deals ? 1 : 0);
                due("known", x.person(0, 1), k >= deals ? 2 : 0);
                due("may", x.person(1, 3), k >= deals ? 0 : 1);
            }
        }
        // Both ways count together; a veil on either side counts for none.
        StrangerMarket x = of("person a 9;person b 9;good g;good h;sells b g 9 0;wants a g 9;sells a h 9 0;wants b h 9;deals 3;veils 1;");
        due("one way", x.buy(0, 0, 1), 0);
        due("the other way", x.buy(1, 1, 0), 0);
        due("two", x.deals(0, 1), 2);
        due("veil", x.veil(1), 0);
        due("to the veiled", x.buy(0, 0, 1), 0);
        due("by the veiled", x.buy(1, 1, 0), 0);
        due("two", x.deals(0, 1), 2);
        due("not met", x.now(6), 0);
        due("bought", x.now(5), 4);
        due("days", x.days(1), 1);
        due("deals stay", x.deals(0, 1), 2);
        due("third", x.buy(1, 1, 0), 0);
        due("met", x.now(6), 1);
        due("met", x.buy(0, 0, 1), 3);
        // "or more": FOES deal on, having MET.
        x = of("person a 9;person b 9;good g;sells b g 9 0;wants a g 9;foes a b;deals 2;bell 2;");
        for (int k = 1; k <= 4; k++) {
            due("foes", x.buy(0, 0, 1), 0);
            due("deals", x.deals(0, 1), k);
            due("met", x.now(6), k >= 2 ? 1 : 0);
        }
        due("known foes may", x.person(0, 3), 2);
        due("days", x.days(1), 1);
        due("deals stay", x.deals(0, 1), 4);
        due("days", x.days(1), 1);
        due("forgotten", x.deals(0, 1), 0);
        due("forgotten", x.now(6), 0);
        due("from the first on", x.buy(0, 0, 1), 0);
        due("one", x.deals(0, 1), 1);
        due("not met", x.now(6), 0);
        // FOES whom a nod has made known: one DEAL is fewer than 'deals', they have MET all the same.
        x = of("person a 9;person b 9;good g;sells b g 9 0;wants a g 9;foes a b;deals 9;");
        due("nod", x.nod(0, 1), 0);
        due("days", x.days(1), 1);
        due("foes", x.buy(0, 0, 1), 0);
        due("one pair", x.now(6), 1);
    }

    // "To NOD: 1 they are alike; 2 one of them is at HOME; 3 they KNOW one another"
    private static void nodEdges() {
        StrangerMarket x = of("person a 0;person b 0;person c 0;person d 0;knows a b;foes a b;foes c d;veils 4;");
        due("3, foes", x.nod(0, 1), 3);
        due("1", x.nod(1, 1), 1);
        due("unknown foes may nod", x.nod(2, 3), 0);
        due("home", x.now(1), 4);
        due("home", x.person(2, 4), 1);
        due("the other is not", x.person(3, 4), 0);
        due("met", x.now(6), 1);
        due("1, 2", x.nod(2, 2), 1);
        due("2, 3", x.nod(2, 3), 2);
        due("2, 3 of the other", x.nod(3, 2), 2);
        due("2", x.nod(2, 0), 2);
        due("2 of the other", x.nod(0, 2), 2);
        due("veil", x.veil(3), 0);
        due("a veil is no matter", x.nod(3, 0), 0);
        due("home", x.now(1), 12);
        due("he who nods alone", x.person(0, 4), 0);
        due("met", x.now(6), 2);
        due("no deal", x.deals(3, 0), 0);
        due("not bought", x.now(5), 0);
        due("days", x.days(1), 1);
        due("3 by nodding", x.nod(3, 2), 3);
        due("3 by nodding", x.nod(0, 3), 3);
        due("nod", x.nod(2, 1), 0);
    }

    // "To VEIL: 1 he is VEILED; 2 there are no veils left today"
    private static void veilEdges() {
        for (int veils = 0; veils <= 9; veils++) {
            StrangerMarket x = of(SEVEN + "veils " + veils + ";");
            for (int p = 0; p < 7; p++) {
                due("veil " + p + " of " + veils, x.veil(p), p < veils ? 0 : 2);
                due("veiled", x.person(p, 5), p < veils ? 1 : 0);
                due("left", x.now(4), Math.max(0, veils - p - 1));
                due("again", x.veil(p), p < veils ? 1 : 2);
            }
            due("who", x.now(2), (1 << Math.min(veils, 7)) - 1);
            due("days", x.days(1), 1);
            due("who", x.now(2), 0);
            due("left", x.now(4), veils);
        }
        StrangerMarket x = of("person a 0;person b 0;");
        due("nod", x.nod(0, 1), 0);
        due("at home", x.veil(0), 0);
        due("1, 2", x.veil(0), 1);
    }

    // "To TELL: 1 two of the three are alike; 2 he does not KNOW both; 3 they KNOW one another"
    private static void tellEdges() {
        StrangerMarket x = of("person a 0;person b 0;person c 0;person d 0;knows a b;knows a c;knows b c;knows c d;foes a d;veils 4;");
        due("1 p is q", x.tell(0, 0, 3), 1);
        due("1 p is r", x.tell(0, 3, 0), 1);
        due("1 q is r", x.tell(0, 3, 3), 1);
        due("1 all", x.tell(0, 0, 0), 1);
        due("2 not q", x.tell(0, 3, 1), 2);
        due("2 not r", x.tell(0, 1, 3), 2);
        due("2 neither", x.tell(3, 0, 1), 2);
        due("2, 3", x.tell(3, 1, 0), 2);
        due("3", x.tell(0, 1, 2), 3);
        due("3", x.tell(0, 2, 1), 3);
        due("nod", x.nod(1, 3), 0);
        due("veil", x.veil(2), 0);
        due("home and veil are no matter", x.tell(2, 3, 0), 0);
        due("met", x.now(6), 2);
        due("known", x.person(0, 1), 14);
        due("nobody goes home", x.now(1), 2);
        due("no deal", x.deals(0, 3), 0);
        due("3 now", x.tell(2, 0, 3), 3);
        due("all know all", x.tell(3, 0, 1), 3);
    }

    // Promise 14: "n (1 to 60) DAYS go by: how many did; NONE: not as told"; "A DAY (0 to 399; 400: all are over)"
    private static void daysOneToSixty() {
        StrangerMarket x = town();
        for (int n : new int[] {LEAST, -1, 0, 61, 62, 400, MOST}) {
            due("days(" + n + ")", x.days(n), -1);
            due("day", x.now(0), 0);
        }
        due("none kept", x.undo(), -1);
        due("days(1)", x.days(1), 1);
        due("days(60)", x.days(60), 60);
        due("days(59)", x.days(59), 59);
        passTo(x, 399);
        due("days(60) of one", x.days(60), 1);
        due("all are over", x.now(0), 400);
        for (int n : new int[] {1, 2, 60}) due("none go by", x.days(n), 0);
        due("not as told", x.days(61), -1);
        due("not as told", x.days(0), -1);
        due("all are over", x.now(0), 400);
        due("undo the last day", x.undo() >= 0, true);
        due("the last day", x.now(0), 399);
        due("days(1)", x.days(1), 1);
        x.undo();
        due("days(2)", x.days(2), 1);
        for (int from : new int[] {339, 340, 341, 398}) {
            x = town();
            passTo(x, from);
            due("days(60) from " + from, x.days(60), Math.min(60, 400 - from));
        }
    }

    // "each PERSON has HUNGER more by all that he wants still. All stocks and wants are as told anew .."
    private static void dayGoes() {
        StrangerMarket x = town();
        x.buy(0, 0, 1);
        x.buy(3, 0, 2);
        x.veil(0);
        x.nod(2, 1);
        due("days", x.days(1), 1);
        due("hunger", x.person(0, 6), 3);
        due("hunger", x.person(1, 6), 2);
        due("hunger of who wants nothing", x.person(2, 6), 0);
        due("hunger of the fed", x.person(3, 6), 0);
        due("all", x.now(7), 5);
        due("stock", x.good(1, 0, 0), 3);
        due("stock", x.good(2, 0, 0), 1);
        due("wants", x.good(0, 0, 1), 3);
        due("wants", x.good(3, 0, 1), 1);
        due("home", x.now(1), 0);
        due("veiled", x.now(2), 0);
        due("veils", x.now(4), 1);
        due("met", x.now(6), 1);
        due("deals", x.deals(0, 1), 1);
        due("coins", x.person(0, 0), 8);
        // Two DAYS at once are one DAY and one DAY.
        StrangerMarket y = town();
        y.buy(0, 0, 1);
        y.days(2);
        y.days(1);
        String three = all(y);
        y = town();
        y.buy(0, 0, 1);
        y.days(3);
        dueSame("three days at once", y, three);
    }

    // "If the number of the next DAY is divided by 'bell', none have MET any more, and all DEALS are forgotten."
    private static void bellDivides() {
        for (int bell : new int[] {2, 3, 29, 30}) {
            StrangerMarket x = of("person a 0;person b 0;person c 0;good g;sells b g 9 0;wants a g 9;knows b c;deals 2;bell " + bell + ";");
            for (int round = 1; round <= 3; round++) {
                due("buy", x.buy(0, 0, 1), 0);
                due("nod", x.nod(0, 2), 0);
                due("days", x.days(bell - 1), bell - 1);
                due("not yet", x.now(6), 1);
                due("not yet", x.deals(0, 1), 1);
                due("days", x.days(1), 1);
                due("the day of the bell", x.now(0), round * bell);
                due("forgotten", x.now(6), 0);
                due("forgotten", x.deals(0, 1), 0);
                due("told ones for ever", x.person(1, 1), 4);
            }
        }
        // DAY 400 is divided by 25, DAY 399 by 3.
        StrangerMarket x = of("person a 0;person b 0;bell 25;");
        passTo(x, 399);
        due("nod", x.nod(0, 1), 0);
        due("days", x.days(1), 1);
        due("the last bell", x.now(6), 0);
        x = of("person a 0;person b 0;bell 3;");
        passTo(x, 399);
        due("nod", x.nod(0, 1), 0);
        due("days", x.days(1), 1);
        due("no bell", x.now(6), 1);
        x = of("person a 0;person b 0;");
        due("nod", x.nod(0, 1), 0);
        passTo(x, 400);
        due("none without", x.now(6), 1);
    }

    // "(9999 at most)"
    private static void hungerAtMost() {
        String text = "person a 0;person b 0;person c 0;good p;good q;good r;good s;wants a p 9;wants a q 9;wants a r 9;wants a s 6;sells b s 1 0;wants c p 1;";
        StrangerMarket x = of(text);
        passTo(x, 303);
        due("33 a day of 303 days", x.person(0, 6), 9999);
        due("all", x.now(7), 9999 + 303);
        due("days", x.days(1), 1);
        due("no more", x.person(0, 6), 9999);
        due("of another more", x.person(2, 6), 304);
        x = of(text);
        passTo(x, 302);
        due("33 a day of 302 days", x.person(0, 6), 9966);
        due("buy", x.buy(0, 3, 1), 0);
        due("days", x.days(1), 1);
        due("one less than the most", x.person(0, 6), 9998);
        due("days", x.days(1), 1);
        due("the most", x.person(0, 6), 9999);
        passTo(x, 400);
        due("the most", x.person(0, 6), 9999);
        due("undo", x.undo() >= 0, true);
        due("the most", x.person(0, 6), 9999);
    }

    // Promise 15: "how many more can be (8 at most are kept); NONE: none is"
    private static void undoEightKept() {
        for (int acts = 0; acts <= 10; acts++) {
            StrangerMarket x = town();
            for (int k = 0; k < acts; k++) x.days(1);
            int kept = Math.min(acts, 8);
            for (int k = 1; k <= kept; k++) {
                due("undo " + k + " of " + acts, x.undo(), kept - k);
                due("day", x.now(0), acts - k);
            }
            due("none is", x.undo(), -1);
            due("none is", x.undo(), -1);
            due("day", x.now(0), acts - kept);
        }
        // What was undone makes room, and is gone.
        StrangerMarket x = town();
        for (int k = 0; k < 8; k++) x.days(2);
        due("undo", x.undo(), 7);
        due("undo", x.undo(), 6);
        x.days(1);
        due("undo", x.undo(), 6);
        due("day", x.now(0), 12);
        x.days(1);
        x.days(1);
        x.days(1);
        due("eight at most", x.undo(), 7);
        for (int k = 6; k >= 0; k--) due("undo", x.undo(), k);
        due("the oldest went", x.now(0), 2);
        due("none is", x.undo(), -1);
    }

    // "The latest of buy(), nod(), veil(), tell() that was done, days() above 0, drawn() above 0, a BOOK of which some LINE was lived"
    private static void undoOfEach() {
        StrangerMarket x = town();
        String before = all(x);
        due("buy", x.buy(0, 0, 1), 0);
        due("undo", x.undo(), 0);
        dueSame("buy undone", x, before);
        due("nod", x.nod(0, 1), 0);
        due("undo", x.undo(), 0);
        dueSame("nod undone", x, before);
        due("veil", x.veil(0), 0);
        due("undo", x.undo(), 0);
        dueSame("veil undone", x, before);
        due("book", book(x, 1, "ann buys bread bob;bob veils;ann nods bob;day 1;dan nods ann;"), -1);
        due("undo", x.undo(), 0);
        dueSame("book undone", x, before);
        x = town();
        due("drawn", x.drawn(60, 5), 60);
        due("days", x.days(60), 60);
        due("undo", x.undo(), 1);
        due("day", x.now(0), 60);
        due("undo", x.undo(), 0);
        dueSame("drawn undone", x, before);
        x.nod(0, 1);
        String met = all(x);
        due("tell", x.tell(0, 1, 2), 0);
        due("undo", x.undo(), 1);
        dueSame("tell undone", x, met);
        x = town();
        passTo(x, 60);
        // What was not done is not kept.
        due("buy", x.buy(0, 0, 2), 3);
        due("nod", x.nod(0, 2), 3);
        due("tell", x.tell(0, 1, 2), 2);
        due("buy", x.buy(9, 0, 2), -1);
        due("days", x.days(61), -1);
        due("drawn", x.drawn(61, 1), -1);
        due("odds", x.odds(0, 3, 1) >= 0, true);
        due("judged", book(x, 0, "day 1;"), -1);
        due("no line", book(x, 1, ""), -1);
        due("no line lived", book(x, 1, "ann nods cid;day 1;"), 0);
        due("fault", book(x, 1, "day 1;day 0;"), -12);
        due("no such lives", x.book(2), -1000);
        due("sentence", sentence(x, "fed"), 1);
        due("image", x.image(0), true);
        due("the one act", x.undo(), 0);
        due("day", x.now(0), 0);
        due("the sentence is no act", x.said(-1), 1);
        x = town();
        passTo(x, 400);
        due("no days", x.days(1), 0);
        due("none drawn", x.drawn(1, 1), 0);
        due("wrong", book(x, 1, "day 1;"), 0);
        due("undo", x.undo(), 6);
        due("day", x.now(0), 360);
        // A BOOK of 40 LINES is one act.
        x = town();
        due("book", book(x, 1, "day 1;".repeat(40)), -1);
        due("day", x.now(0), 40);
        due("undo", x.undo(), 0);
        due("day", x.now(0), 0);
        due("lived in part", book(x, 1, "day 1;".repeat(39) + "ann nods ann;"), 39);
        due("day", x.now(0), 39);
        due("undo", x.undo(), 0);
        due("day", x.now(0), 0);
        // What other calls told last is not undone.
        due("told", x.told(1), 39);
        due("face", x.face(0), 13);
    }

    // Promise 16: "two who MAY deal as often as they have DEALS left, FOES as often as one likes"
    private static void mostEdges() {
        for (int deals = 1; deals <= 9; deals++) {
            StrangerMarket x = of("person a 0;person b 0;good g;sells a g 5 20;wants b g 7;deals " + deals + ";");
            due("most of " + deals, x.most(0), Math.min(5, deals));
            x = of("person a 0;person b 0;good g;sells a g 9 20;wants b g 6;foes a b;deals " + deals + ";");
            due("most of foes", x.most(0), 6);
            x = of("person a 0;person b 0;good g;sells a g 9 0;wants b g 9;deals " + deals + ";");
            for (int k = 1; k <= deals; k++) {
                due("buy", x.buy(1, 0, 0), 0);
                due("deals left", x.most(0), deals - k);
            }
        }
        StrangerMarket x = of("person a 0;person b 0;person c 0;good g;good h;good i;sells a g 9 0;wants b g 9;wants c g 9;sells a h 1 0;wants b i 1;knows a b;foes a b;knows a c;deals 9;");
        due("known foes, and known ones", x.most(0), 9);
        due("nobody wants it", x.most(1), 0);
        due("nobody sells it", x.most(2), 0);
        due("nod", x.nod(1, 2), 0);
        due("home is no matter", x.most(0), 9);
        due("veil", x.veil(2), 0);
        due("a veil is no matter", x.most(0), 9);
        x = of("person a 0;person b 0;good g;sells a g 9 0;wants b g 9;knows a b;");
        due("known", x.most(0), 0);
        due("veil", x.veil(0), 0);
        due("known, veiled", x.most(0), 0);
        due("buy all the same", x.buy(1, 0, 0), 0);
        // Who is served first must give way: c can be served by a alone.
        x = of("person a 0;person b 0;person c 0;person d 0;good g;sells a g 1 0;sells b g 1 0;wants c g 1;wants d g 1;knows b c;");
        due("both", x.most(0), 2);
        // Seven: three sell 9 each, four want 9 each, two deals a pair.
        x = of(SEVEN + "good h;sells a h 9 0;sells b h 9 0;sells c h 9 0;wants d h 9;wants e h 9;wants f h 9;wants g h 9;");
        due("twelve pairs", x.most(0), 24);
        x = of(SEVEN + "good h;sells a h 9 0;sells b h 9 0;sells c h 9 0;wants d h 9;wants e h 9;wants f h 9;wants g h 9;deals 9;");
        due("all stocks", x.most(0), 27);
        // All sell it: nobody is left who could want it.
        x = of("person a 0;good h;sells a h 3 0;");
        due("one alone sells it", x.most(0), 0);
        x = of("person a 0;person b 0;good h;sells a h 3 0;sells b h 1 0;foes a b;");
        due("all sell it", x.most(0), 0);
    }

    private static int whoOf(StrangerMarket x, int bytes, int p, int may) {
        int[] all = new int[bytes];
        for (int k = 0; k < bytes; k++) all[k] = k % 2 == 0 ? p : may;
        return who(x, all);
    }

    // Promise 17: "pairs of bytes: a PERSON, 1 .. MAY .., 0 not; 1 to 8 of them"; "NONE: not as told"
    private static void whoPairs() {
        StrangerMarket x = town();
        for (int bytes = 0; bytes <= 20; bytes++) {
            boolean told = bytes >= 2 && bytes <= 16 && bytes % 2 == 0;
            due("who by " + bytes + " bytes", whoOf(x, bytes, 2, 1), told ? 10 : -1);
            due("the tape is empty", x.count(5), 0);
        }
        due("940 bytes", whoOf(x, 940, 2, 1), -1);
        due("the last person", who(x, 3, 1), 7);
        for (int p : new int[] {4, 5, 7, 8, 32, 35, 128, 255}) due("no such person", who(x, p, 1), -1);
        for (int may : new int[] {2, 3, 49, 128, 255}) due("neither", who(x, 0, may), -1);
        due("the eighth is no person", who(x, 0, 1, 0, 1, 0, 1, 0, 1, 0, 1, 0, 1, 0, 1, 4, 1), -1);
        due("the eighth is neither", who(x, 0, 1, 0, 1, 0, 1, 0, 1, 0, 1, 0, 1, 0, 1, 0, 2), -1);
        due("both", who(x, 0, 1, 0, 0), 0);
        due("none of those told", who(x, 0, 0), 4);
        due("none of those told", who(x, 0, 1, 1, 1), 8);
        due("all told", who(x, 0, 1, 1, 1, 2, 1, 3, 1), 0);
        due("foes may", who(x, 1, 1), 13);
        x = of("person a 0;");
        due("nobody else", who(x, 0, 0), 0);
        due("nobody else", who(x, 0, 1), 0);
        due("ask ahead of any above 0", x.ask(), -1);
        x = of(SEVEN);
        due("all others", who(x, 6, 1), 63);
        due("nobody", who(x, 6, 0), 0);
        x.nod(0, 1);
        due("home is no matter", who(x, 0, 1), 124);
        due("met", who(x, 0, 0), 2);
        x.veil(0);
        due("a veil is no matter", who(x, 0, 1), 124);
    }

    // Promise 18: "by the latest who() above 0 (as it was then); NONE ahead of any"; "of like ones the first"
    private static void askLatest() {
        StrangerMarket x = town();
        due("ahead of any", x.ask(), -1);
        who(x, 0, 1, 0, 0);
        due("ahead of any above 0", x.ask(), -1);
        who(x);
        due("ahead of any above 0", x.ask(), -1);
        due("who", who(x, 2, 1), 10);
        due("ask", x.ask(), 1);
        due("who of nobody", who(x, 0, 1, 0, 0), 0);
        due("ask stays", x.ask(), 1);
        due("who not as told", who(x, 0, 3), -1);
        due("ask stays", x.ask(), 1);
        due("who of the first alone", who(x, 2, 0), 1);
        due("ask", x.ask(), 0);
        due("who", who(x, 2, 1), 10);
        due("ask", x.ask(), 1);
        x.nod(1, 0);
        x.nod(3, 0);
        due("as it was then", x.ask(), 1);
        x.undo();
        county(x, "");
        due("as it was then", x.ask(), 1);
        // One alone is left: all ask alike, the first.
        x = of(SEVEN + "knows a b;");
        due("who", who(x, 0, 0), 2);
        due("the first", x.ask(), 0);
        // c to g: whoever of them is asked, he himself MAY not: four may be left; a, b leave five.
        due("who", who(x, 0, 1), 124);
        due("himself may not", x.ask(), 2);
        // a knows b and c: asked, he leaves himself, b and c, or the other three.
        x = of(SEVEN + "knows a b;knows a c;");
        due("who", who(x, 6, 1), 63);
        due("halves", x.ask(), 0);
        // All KNOW one another: whoever is asked, all six are left.
        StringBuilder pairs = new StringBuilder(SEVEN);
        for (char p = 'a'; p <= 'g'; p++) {
            for (char q = (char) (p + 1); q <= 'g'; q++) pairs.append("knows ").append(p).append(' ').append(q).append(';');
        }
        x = of(pairs.toString());
        due("who", who(x, 3, 0), 119);
        due("six are left by each", x.ask(), 0);
    }

    // Promises 19, 20: "how many PERSONS (0: nobody wants it); NONE: not by all, no such one"; "of like ones the least as bits"
    private static void serveFewest() {
        StrangerMarket x = town();
        due("ahead of any", x.serving(), -1);
        due("no such one", x.serve(2), -1);
        due("ahead of any", x.serving(), -1);
        x = of(SEVEN + "good u;good v;good w;good x;sells a u 1 0;sells b u 1 0;sells c u 1 0;wants d u 1;wants e u 1;wants f u 1;"
                + "knows b d;knows c d;knows a e;knows c e;knows a f;knows b f;sells a v 1 0;wants b w 1;");
        due("all three", x.serve(0), 3);
        due("who", x.serving(), 7);
        due("nobody wants it", x.serve(1), 0);
        due("nobody", x.serving(), 0);
        due("nobody sells it", x.serve(2), -1);
        due("it stays", x.serving(), 0);
        due("nobody sells or wants it", x.serve(3), 0);
        due("nod", x.nod(0, 3), 0);
        due("not by all", x.serve(0), -1);
        due("it stays", x.serving(), 0);
        x = of(SEVEN + "good u;sells g u 1 0;sells f u 1 0;sells e u 1 0;sells d u 1 0;wants a u 1;wants b u 1;knows a d;knows b e;knows a g;knows b f;");
        // Of d to g: a may with e, f; b may with d, g: two are needed; the least bits are d and e.
        due("two", x.serve(0), 2);
        due("the least as bits", x.serving(), 8 + 16);
        // Fewer come ahead of less as bits: c alone, not a and b.
        x = of(SEVEN + "good u;sells a u 1 0;sells b u 1 0;sells c u 1 0;wants d u 1;wants e u 1;knows a d;knows b e;");
        due("one", x.serve(0), 1);
        due("the fewest", x.serving(), 4);
        x = of("person a 0;person b 0;person c 0;good g;sells b g 1 0;sells c g 1 0;wants a g 1;deals 1;");
        due("one", x.serve(0), 1);
        due("the least as bits", x.serving(), 2);
        due("buy", x.buy(0, 0, 1), 0);
        due("as told, though he wants no more, and has none left", x.serve(0), 1);
        due("they have met", x.serving(), 4);
        due("veil", x.veil(1), 0);
        due("a veil is no matter", x.serve(0), 1);
        due("a veil is no matter", x.serving(), 4);
        county(x, "");
        due("no such one", x.serve(0), -1);
        due("it stays", x.serving(), 4);
        x = of("person a 0;person b 0;good g;sells b g 1 0;wants a g 1;knows a b;");
        due("known", x.serve(0), -1);
        x = of("person a 0;person b 0;good g;sells b g 1 0;wants a g 1;knows a b;foes a b;");
        due("foes", x.serve(0), 1);
    }

    // A row in which only neighbours MAY deal: all others KNOW one another.
    private static String row(String order, String word) {
        StringBuilder text = new StringBuilder(SEVEN);
        for (int i = 0; i < order.length(); i++) {
            for (int k = 0; k < i; k++) {
                boolean near = i - k == 1;
                if (word.equals("may") != near) text.append("knows ").append(order.charAt(i)).append(' ').append(order.charAt(k)).append(';');
            }
        }
        return text.toString();
    }

    // Promises 21, 22: "how many others (0: they MAY deal); NONE: none, alike, no such ones"; "The k-th other one (from 0)"
    private static void chainFewest() {
        StrangerMarket x = of(row("adgbecf", "may"));
        due("ahead of any", x.chainAt(0), -1);
        for (int p = 0; p < 7; p++) due("alike", x.chain(p, p), -1);
        due("ahead of any but NONE", x.chainAt(0), -1);
        int[] order = {0, 3, 6, 1, 4, 2, 5};
        for (int i = 0; i < 7; i++) {
            for (int k = i + 1; k < 7; k++) {
                due("others", x.chain(order[i], order[k]), k - i - 1);
                for (int at = 0; at < k - i - 1; at++) due("the other", x.chainAt(at), order[i + 1 + at]);
                due("no more", x.chainAt(k - i - 1), -1);
            }
        }
        due("five others", x.chain(5, 0), 5);
        due("the first", x.chainAt(0), 2);
        due("the last", x.chainAt(4), 3);
        for (int k : new int[] {LEAST, -1, 5, 6, 7, 8, MOST}) due("none such", x.chainAt(k), -1);
        // The first by PERSON, not the least of the last ones: a to g by b, f or by c, d.
        x = of(SEVEN + "knows a g;knows a d;knows a e;knows a f;knows b c;knows b d;knows b e;knows b g;knows c e;knows c f;knows c g;knows d e;knows d f;knows e f;knows e g;");
        due("two others", x.chain(0, 6), 2);
        due("the first", x.chainAt(0), 1);
        due("then", x.chainAt(1), 5);
        due("back", x.chain(6, 0), 2);
        due("the first", x.chainAt(0), 3);
        due("then", x.chainAt(1), 2);
        due("they may", x.chain(0, 1), 0);
        due("nobody", x.chainAt(0), -1);
        due("two others", x.chain(0, 6), 2);
        due("none", x.chain(0, 4), -1);
        due("it stays", x.chainAt(1), 5);
        due("alike", x.chain(0, 0), -1);
        due("no such", x.chain(0, 7), -1);
        due("it stays", x.chainAt(1), 5);
        x.veil(1);
        due("a veil is no matter", x.chain(0, 4), -1);
        // a may with b and c, but c alone leads on to d.
        x = of("person a 0;person b 0;person c 0;person d 0;knows a d;knows b d;");
        due("one other", x.chain(0, 3), 1);
        due("who leads on", x.chainAt(0), 2);
        x = of("person a 0;person b 0;person c 0;person d 0;person e 0;knows a d;knows a e;knows b d;knows b e;knows c e;");
        due("two others", x.chain(0, 4), 2);
        due("who leads on", x.chainAt(0), 2);
        due("then", x.chainAt(1), 3);
        county(x, "person a 0;person b 0;knows a b;");
        due("known", x.chain(0, 1), -1);
        due("it stays", x.chainAt(0), 2);
        county(x, "person a 0;person b 0;knows a b;foes a b;");
        due("foes may", x.chain(0, 1), 0);
    }

    // Promise 23: "DAYS (0: he is alone); NONE: never all, no such one"
    private static void outDays() {
        StrangerMarket x = of("person a 0;");
        due("alone", x.out(0), 0);
        x = of("person a 0;person b 0;");
        due("never", x.out(0), -1);
        x = of("person a 0;person b 0;foes a b;");
        due("foes tell nothing", x.out(0), -1);
        x = of("person a 0;person b 0;knows a b;foes a b;");
        due("known foes do", x.out(0), 1);
        x = of(row("adgbecf", "know"));
        int[] days = {6, 3, 5, 5, 4, 6, 4};
        for (int p = 0; p < 7; p++) due("out of " + p, x.out(p), days[p]);
        x = of(row("adgbecf", "may"));
        for (int p = 0; p < 7; p++) due("out of " + p, x.out(p), 2);
        x = of(row("abcdef", "know"));
        for (int p = 0; p < 7; p++) due("never all", x.out(p), -1);
        due("nod", x.nod(6, 0), 0);
        due("met", x.out(6), 6);
        due("home is no matter", x.out(5), 6);
    }

    // Promises 24, 25: "how many others; NONE: they KNOW one another, alike, no such ones"
    private static void apartFewest() {
        StrangerMarket x = of(SEVEN + "knows a b;knows a c;knows a d;knows a e;knows a f;knows g b;knows g c;knows g d;knows g e;knows g f;");
        due("ahead of any", x.parting(), -1);
        due("known", x.apart(0, 1), -1);
        due("alike", x.apart(0, 0), -1);
        due("no such", x.apart(0, 7), -1);
        due("ahead of any but NONE", x.parting(), -1);
        due("all others", x.apart(0, 6), 5);
        due("all others", x.parting(), 62);
        due("both", x.apart(1, 2), 2);
        due("both", x.parting(), 65);
        due("known", x.apart(6, 1), -1);
        due("it stays", x.parting(), 65);
        x = of(row("adgbecf", "know"));
        due("one of five", x.apart(0, 5), 1);
        due("the least as bits", x.parting(), 2);
        due("one of two", x.apart(0, 1), 1);
        due("the least as bits", x.parting(), 8);
        due("the one", x.apart(1, 2), 1);
        due("the one", x.parting(), 16);
        x = of("person a 0;person b 0;foes a b;");
        due("apart", x.apart(0, 1), 0);
        due("nobody", x.parting(), 0);
        due("nod", x.nod(0, 1), 0);
        due("known", x.apart(0, 1), -1);
        x = of(SEVEN + "knows a b;knows b c;knows a d;knows d c;knows e f;");
        due("apart", x.apart(0, 4), 0);
        due("nobody", x.parting(), 0);
        due("two", x.apart(2, 0), 2);
        due("b and d", x.parting(), 10);
        county(x, "");
        due("it stays", x.parting(), 10);
    }

    // Promise 26: "who KNOWS fewest (of like ones the first)"; "NONE: there are no PERSONS"
    private static void recluseFirst() {
        StrangerMarket x = of("good g;");
        due("no persons", x.recluse(), -1);
        x = of("person a 0;");
        due("one", x.recluse(), 0);
        x = of(SEVEN);
        due("of like ones the first", x.recluse(), 0);
        due("nod", x.nod(0, 1), 0);
        due("the third", x.recluse(), 2);
        x = of(row("abcdefg", "may"));
        due("inner ones know four", x.recluse(), 1);
        StringBuilder all = new StringBuilder(SEVEN);
        for (char p = 'a'; p <= 'g'; p++) {
            for (char q = 'a'; q < p; q++) if (q != 'f') all.append("knows ").append(q).append(' ').append(p).append(';');
        }
        x = of(all.toString());
        due("f and g know five", x.recluse(), 5);
        due("nod", x.nod(5, 6), 0);
        due("all know all", x.recluse(), 0);
    }

    // Promises 27, 28: "how many bytes; NONE: no such one"; "Byte i of the latest FACE; NONE: none such"
    private static void faceBytes() {
        StrangerMarket x = new StrangerMarket();
        due("ahead of any", x.byteAt(0), -1);
        due("ahead of any", x.byteAt(-1), -1);
        String names = "aaaaaaa bbbbbbb ccccccc ddddddd eeeeeee fffffff zzzzzzz";
        StringBuilder text = new StringBuilder("veils 7;");
        for (String name : names.split(" ")) text.append("person ").append(name).append(" 0;");
        for (String name : names.substring(8).split(" ")) if (!name.startsWith("z")) text.append("knows aaaaaaa ").append(name).append(';');
        county(x, text.toString());
        dueFace(x, 6, "zzzzzzz knows nobody");
        dueFace(x, 1, "bbbbbbb knows aaaaaaa");
        dueFace(x, 0, "aaaaaaa knows bbbbbbb ccccccc ddddddd eeeeeee fffffff");
        x.veil(6);
        dueFace(x, 6, "zzzzzzz knows nobody veiled");
        x.nod(0, 6);
        dueFace(x, 6, "zzzzzzz knows aaaaaaa veiled");
        dueFace(x, 0, "aaaaaaa knows bbbbbbb ccccccc ddddddd eeeeeee fffffff zzzzzzz home");
        x.veil(0);
        due("the longest", x.face(0), 73);
        due("the last byte", x.byteAt(72), 'e');
        for (int i : new int[] {LEAST, -1, 73, 74, 80, 1000, MOST}) due("none such", x.byteAt(i), -1);
        due("no such one", x.face(7), -1);
        due("the latest stays", x.byteAt(72), 'e');
        x.days(1);
        county(x, "person q 0;");
        due("the latest stays", x.byteAt(72), 'e');
        due("the shortest", x.face(0), 14);
        due("the last byte", x.byteAt(13), 'y');
        due("none such", x.byteAt(14), -1);
        due("none such", x.byteAt(72), -1);
        dueFace(x, 0, "q knows nobody");
    }

    // Promise 29: "n (1 to 60) DAYS DRAWN by a seed: how many went by; NONE: not as told"
    private static void drawnDays() {
        StrangerMarket x = town();
        String before = all(x);
        for (int n : new int[] {LEAST, -1, 0, 61, 400, MOST}) due("drawn(" + n + ")", x.drawn(n, 1), -1);
        dueSame("nothing changed", x, before);
        due("drawn(1)", x.drawn(1, LEAST), 1);
        due("drawn(60)", x.drawn(60, MOST), 60);
        due("drawn(60)", x.drawn(60, -1), 60);
        due("day", x.now(0), 121);
        passTo(x, 399);
        due("drawn(60) of one", x.drawn(60, 0), 1);
        String over = all(x);
        due("over", x.drawn(1, 1), 0);
        due("over", x.drawn(60, 1), 0);
        due("not as told", x.drawn(61, 1), -1);
        dueSame("nothing drawn when all are over", x, over);
        due("undo", x.undo() >= 0, true);
        due("day", x.now(0), 399);
        // The draws go on from DAY to DAY: two of one DAY are not one of two DAYS by the same seed.
        StrangerMarket y = town();
        y.drawn(2, 3);
        x = town();
        x.drawn(1, 3);
        String one = all(x);
        x.undo();
        x.drawn(2, 3);
        dueSame("the same seed draws the same", x, all(y));
        y = town();
        y.drawn(1, 3);
        dueSame("the same seed draws the same", y, one);
    }

    private static int x0;

    private static int next(int n) {
        long wide = (x0 & 0xffffffffL) * 1103515245L + 12345L;
        x0 = (int) (wide & 0xffffffffL);
        return (int) ((wide & 0xffffffffL) / 256 % n);
    }

    // "x becomes x * 1103515245 + 12345 (an int, wrapping), the draw is (x >>> 8) % n"; "(none: no more draws)"
    private static void drawsWrap() {
        // In the fourth those who KNOW one another buy by veils alone; the fifth has no GOODS.
        String[] lands = {TOWN, "person a 3;", "person a 3;person b 3;veils 1;",
            "person a 3;person b 9;person c 9;good g;sells a g 9 1;wants b g 9;wants c g 9;knows a b;knows a c;veils 1;", SEVEN + "veils 2;",
            SEVEN + "good h;sells a h 9 0;sells b h 9 1;wants c h 9;wants d h 9;wants e h 1;foes a d;veils 3;deals 1;bell 2;"};
        for (String land : lands) {
            for (int seed : new int[] {0, 1, -1, LEAST, MOST, 12345, -12345, 0x7fffff00, 0x80000100}) {
                StrangerMarket x = of(land);
                StrangerMarket y = of(land);
                due("drawn", x.drawn(20, seed), 20);
                x0 = seed;
                for (int day = 0; day < 20; day++) {
                    for (int p = 0; p < y.count(0); p++) live(y, p);
                    y.days(1);
                }
                dueSame("drawn by " + seed, x, all(y));
            }
        }
    }

    private static void live(StrangerMarket y, int p) {
        int what = next(6);
        if (what <= 2 && y.count(1) > 0) {
            int g = next(y.count(1));
            y.buy(p, g, next(y.count(0)));
        } else if (what == 3) {
            y.nod(p, next(y.count(0)));
        } else if (what == 4) {
            y.veil(p);
        }
    }

    // Promise 30: "Of n (1 to 30) seeds x, x and 1, .. by how many a PERSON has more coins than now behind 10 DAYS"
    private static void oddsSeeds() {
        StrangerMarket x = town();
        for (int n : new int[] {LEAST, -1, 0, 31, 60, MOST}) due("odds of " + n, x.odds(0, n, 1), -1);
        String before = all(x);
        int richer = 0;
        for (int n = 1; n <= 30; n++) {
            x.drawn(10, MOST - 14 + n);
            if (x.person(3, 0) > 0) richer++;
            x.undo();
            due("odds of " + n, x.odds(3, n, MOST - 13), richer);
        }
        due("some are richer", richer > 0, true);
        dueSame("all stays", x, before);
        due("nothing to undo", x.undo(), -1);
        // Fewer than 10 DAYS are left: those alone are drawn.
        for (int day : new int[] {389, 390, 391, 399}) {
            x = town();
            passTo(x, day);
            int more = 0;
            for (int k = 0; k < 30; k++) {
                int left = x.drawn(10, k);
                due("days", left, Math.min(10, 400 - day));
                if (x.person(1, 0) > 5) more++;
                x.undo();
            }
            due("odds on " + day, x.odds(1, 30, 0), more);
        }
        passTo(x, 400);
        due("none are left", x.odds(1, 30, 0), 0);
        due("as many coins are not more", of("person a 0;person b 0;").odds(0, 30, 1), 0);
    }

    // Promise 31: "judged, all staying as it is (lives 0), or lived as far as it is not WRONG (1) .. -1000: another lives (the tape stays)"
    private static void bookLives() {
        StrangerMarket x = town();
        sentence(x, "fed");
        String before = all(x);
        lay(x, "day 1;ann nods ann;");
        for (int lives : new int[] {LEAST, -1, 2, 3, MOST}) {
            due("book(" + lives + ")", x.book(lives), -1000);
            due("the tape stays", x.count(5), 19);
        }
        due("told ahead of any", x.told(0), -1);
        dueSame("nothing lived", x, before);
        due("judged", x.book(0), 1);
        due("the tape is empty", x.count(5), 0);
        dueSame("nothing lived", x, before);
        due("nothing to undo", x.undo(), -1);
        due("the first line", book(x, 1, "ann nods ann;day 1;"), 0);
        dueSame("nothing lived", x, before);
        due("no line", book(x, 1, ""), -1);
        dueSame("nothing lived", x, before);
        due("a fault behind lines", book(x, 1, "day 1;day 0;"), -12);
        dueSame("nothing lived", x, before);
        due("a fault in the first byte", book(x, 1, "?"), -2);
        due("lived", book(x, 1, "ann buys bread bob;ann buys bread bob;ann buys bread bob;day 9;"), 2);
        due("why", x.told(0), 3);
        due("lived as far", x.now(5), 2);
        due("no line behind it", x.now(0), 0);
        due("undo", x.undo(), 0);
        dueSame("undone", x, before);
        // A BOOK lives what the calls would do.
        StrangerMarket y = town();
        sentence(y, "fed");
        y.buy(0, 0, 1);
        y.veil(1);
        y.nod(3, 2);
        y.days(2);
        y.nod(0, 1);
        y.tell(0, 1, 2);
        due("book", book(x, 1, "ann buys bread bob;bob veils;dan nods cid;day 2;ann nods bob;ann tells bob cid;"), -1);
        dueSame("as by calls", x, all(y));
    }

    // "41: fewer DAYS are left"
    private static void bookDaysLeft() {
        StrangerMarket x = town();
        passTo(x, 340);
        due("sixty are left", book(x, 0, "day 60;"), -1);
        due("day", x.told(2), 400);
        due("sixty are left", book(x, 0, "day 59;day 1;"), -1);
        due("sixty are left", book(x, 0, "day 59;day 2;"), 1);
        due("why", x.told(0), 41);
        due("day", x.told(2), 399);
        due("sixty are left", book(x, 0, "day 60;day 1;"), 1);
        due("why", x.told(0), 41);
        due("day", x.told(2), 400);
        due("lived to the end", book(x, 1, "day 59;"), -1);
        due("day", x.now(0), 399);
        due("one is left", book(x, 1, "day 2;"), 0);
        due("why", x.told(0), 41);
        due("day", x.now(0), 399);
        due("one is left", book(x, 1, "day 1;"), -1);
        due("day", x.now(0), 400);
        due("none is left", book(x, 1, "day 1;"), 0);
        due("why", x.told(0), 41);
        due("lines", x.told(1), 0);
        due("an act may be done", book(x, 1, "ann veils;day 1;"), 1);
        due("veiled", x.now(2), 1);
        x = town();
        passTo(x, 341);
        due("59 are left", book(x, 0, "day 60;"), 0);
        due("why", x.told(0), 41);
        due("day", x.told(2), 341);
    }

    private static void dueTold(StrangerMarket x, int why, int lines, int day, int fed) {
        due("why", x.told(0), why);
        due("lines", x.told(1), lines);
        due("day", x.told(2), day);
        due("fed", x.told(3), fed);
    }

    // Promise 32: "Of the latest book() that had no FAULT (and was not -1000) .. NONE: another what, or ahead of any"
    private static void toldOfLatest() {
        StrangerMarket x = town();
        dueTold(x, -1, -1, -1, -1);
        due("fault", book(x, 0, "?"), -2);
        dueTold(x, -1, -1, -1, -1);
        due("another lives", x.book(2), -1000);
        dueTold(x, -1, -1, -1, -1);
        due("no lines", book(x, 0, ""), -1);
        dueTold(x, 0, 0, 0, 4);
        due("forty", book(x, 0, "day 9;".repeat(39) + "dan buys bread cid;"), -1);
        dueTold(x, 0, 40, 351, 12);
        for (int what : new int[] {LEAST, -1, 4, 5, MOST}) due("another what", x.told(what), -1);
        due("fault", book(x, 0, "day 0;"), -6);
        due("another lives", x.book(2), -1000);
        x.days(5);
        county(x, "");
        dueTold(x, 0, 40, 351, 12);
        county(x, TOWN);
        String[] lines = {"ann buys bread ann", "ann buys bread cid", "ann buys oil bob", "dan buys bread bob", "bob buys bread cid", "ann nods ann", "ann nods cid",
            "ann tells ann bob", "ann tells cid bob"};
        int[] whys = {1, 3, 4, 5, 6, 11, 13, 31, 32};
        for (int k = 0; k < lines.length; k++) {
            due(lines[k], book(x, 0, lines[k] + ";"), 0);
            dueTold(x, whys[k], 0, 0, 4);
            due(lines[k], book(x, 0, "day 1;" + lines[k] + ";day 1;"), 1);
            dueTold(x, whys[k], 1, 1, 4);
        }
        due("home", book(x, 0, "ann nods bob;ann buys oil dan;"), 1);
        dueTold(x, 2, 1, 0, 4);
        due("home", book(x, 0, "ann nods bob;ann nods dan;"), 1);
        dueTold(x, 12, 1, 0, 4);
        due("veiled", book(x, 0, "ann veils;ann veils;"), 1);
        dueTold(x, 21, 1, 0, 4);
        due("no veils left", book(x, 0, "ann veils;bob veils;"), 1);
        dueTold(x, 22, 1, 0, 4);
        due("known", book(x, 0, "ann nods bob;ann tells bob cid;ann tells cid bob;"), 2);
        dueTold(x, 33, 2, 0, 4);
    }

    // Promise 34: "how many (k NONE), or the k-th. NONE: there is no SENTENCE, none such"
    private static void saidOfWhom() {
        StrangerMarket x = town();
        for (int k : new int[] {LEAST, -2, -1, 0, 1, MOST}) due("no sentence", x.said(k), -1);
        due("faulty", sentence(x, "fed or"), -7);
        due("no sentence", x.said(-1), -1);
        due("sentence", sentence(x, "not fed"), 2);
        due("how many", x.said(-1), 3);
        due("0", x.said(0), 0);
        due("1", x.said(1), 1);
        due("2", x.said(2), 3);
        for (int k : new int[] {LEAST, -3, -2, 3, 4, 7, 31, 32, MOST}) due("none such", x.said(k), -1);
        due("faulty", sentence(x, "home home"), -6);
        due("it stays", x.said(-1), 3);
        due("of nobody", sentence(x, "home"), 1);
        due("how many", x.said(-1), 0);
        due("none such", x.said(0), -1);
        x = of(SEVEN);
        due("of all", sentence(x, "not home"), 2);
        due("how many", x.said(-1), 7);
        due("the last", x.said(6), 6);
        due("none such", x.said(7), -1);
        x.nod(0, 1);
        due("of six now", x.said(-1), 6);
        due("the first", x.said(0), 1);
        due("a faulty county leaves it", county(x, "?"), -1);
        due("of six", x.said(-1), 6);
        due("a new county has none", county(x, SEVEN), 7);
        due("none", x.said(-1), -1);
        due("none", x.said(0), -1);
    }

    // Promise 35: "kept in place k (0, 1): true; false: no such one"
    private static void imagePlaces() {
        StrangerMarket x = town();
        for (int k : new int[] {LEAST, -1, 2, 3, MOST}) {
            due("image(" + k + ")", x.image(k), false);
            due("restore(" + k + ")", x.restore(k), false);
        }
        due("nothing in 0", x.restore(0), false);
        due("nothing in 1", x.restore(1), false);
        due("image(0)", x.image(0), true);
        due("nothing in 1", x.restore(1), false);
        x.days(1);
        due("a false restore leaves acts", x.undo(), 0);
        x.days(1);
        due("image(1)", x.image(1), true);
        due("an image leaves acts", x.undo(), 0);
        due("restore(1)", x.restore(1), true);
        due("day", x.now(0), 1);
        due("restore(0)", x.restore(0), true);
        due("day", x.now(0), 0);
        due("and again", x.restore(1), true);
        due("day", x.now(0), 1);
    }

    // Promise 36: "They are as kept in place k (the tape, and what other calls told last, stays; nothing can be undone)"
    private static void restoreAll() {
        StrangerMarket x = town();
        sentence(x, "not fed");
        x.buy(0, 0, 1);
        x.drawn(5, 8);
        x.buy(0, 0, 1);
        x.veil(2);
        x.nod(3, 0);
        String kept = all(x);
        due("image", x.image(0), true);
        county(x, SEVEN + "good u;good v;good w;good x;good y;sells a u 9 9;wants b u 9;deals 9;veils 9;bell 30;");
        sentence(x, "wants u");
        x.serve(0);
        x.chain(0, 1);
        x.apart(0, 1);
        who(x, 0, 1);
        x.face(6);
        book(x, 0, "day 7;");
        int ask = x.ask();
        sentence(x, "knows zed");
        x.feed(1, 2, 3, 4, 5);
        x.days(3);
        due("restore", x.restore(0), true);
        dueSame("as kept", x, kept);
        due("nothing can be undone", x.undo(), -1);
        due("the tape stays", x.count(5), 20);
        due("fault stays", x.fault(), 3);
        due("serving stays", x.serving(), 1);
        due("parting stays", x.parting(), 0);
        due("ask stays", x.ask(), ask);
        due("the face stays", x.byteAt(0), 'g');
        due("told stays", x.told(2), 7);
        x.end(0);
        // The names, too, are as kept.
        due("a name, though the veil is taken", book(x, 0, "ann veils;"), 0);
        due("why", x.told(0), 22);
        due("no name", book(x, 0, "a veils;"), -2);
        due("prices", x.good(1, 0, 2), 2);
        x.days(1);
        due("an act", x.undo(), 0);
        dueSame("as kept", x, kept);
        // Without a SENTENCE kept, there is none.
        x = town();
        due("image", x.image(1), true);
        sentence(x, "fed");
        due("restore", x.restore(1), true);
        due("none", x.said(-1), -1);
        county(x, "person zed 1;");
        due("a faulty county", county(x, "?"), -1);
        due("restore", x.restore(1), true);
        due("four", x.count(0), 4);
    }

    // Promise 37: "0 PERSONS, 1 GOODS, 2 'deals', 3 'veils', 4 'bell' (0: none), 5 bytes of the tape. NONE for another what."
    private static void counts() {
        StrangerMarket x = new StrangerMarket();
        int[] first = {0, 0, 2, 1, 0, 0};
        for (int what = 0; what < 6; what++) due("count(" + what + ")", x.count(what), first[what]);
        county(x, SEVEN + "good u;good v;good w;good x;good y;deals 9;veils 9;bell 30;");
        x.feed(0, 0, 0, 0, 0);
        x.veil(0);
        int[] then = {7, 5, 9, 9, 30, 20};
        for (int what = 0; what < 6; what++) due("count(" + what + ")", x.count(what), then[what]);
        for (int what : new int[] {LEAST, -1, 6, 7, MOST}) due("another what", x.count(what), -1);
        due("veils that are left", x.now(4), 8);
    }
}
