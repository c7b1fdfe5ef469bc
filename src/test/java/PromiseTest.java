/** For each promise what the document's own words ask: ordinary inputs, the edges it names, wrong inputs. */
final class PromiseTest extends Desk {
    public static void main(String[] args) {
        newObject();
        tape();
        countyLimits();
        countyFaults();
        textEnds();
        faultStays();
        personAndGood();
        buying();
        buyingFoes();
        nodding();
        veiling();
        telling();
        days();
        hunger();
        undoing();
        most();
        masked();
        serving();
        chains();
        outs();
        parting();
        recluse();
        faces();
        drawing();
        odds();
        bookFaults();
        books();
        sentenceFaults();
        sentences();
        images();
        readme();
        tellAndExit("PromiseTest");
    }

    // 1, 37
    private static void newObject() {
        StrangerMarket x = new StrangerMarket();
        int[] counts = {0, 0, 2, 1, 0, 0, -1};
        for (int what = 0; what < counts.length; what++) due("new count(" + what + ")", x.count(what), counts[what]);
        due("count(-1)", x.count(-1), -1);
        int[] nows = {0, 0, 0, 0, 1, 0, 0, 0, -1};
        for (int what = 0; what < nows.length; what++) due("new now(" + what + ")", x.now(what), nows[what]);
        due("now(-1)", x.now(-1), -1);
        due("new fault()", x.fault(), 0);
        due("new told(0)", x.told(0), -1);
        due("new ask()", x.ask(), -1);
        due("new serving()", x.serving(), -1);
        due("new chainAt(0)", x.chainAt(0), -1);
        due("new parting()", x.parting(), -1);
        due("new recluse()", x.recluse(), -1);
        due("new byteAt(0)", x.byteAt(0), -1);
        due("new said(-1)", x.said(-1), -1);
        due("new undo()", x.undo(), -1);
        due("new restore(0)", x.restore(0), false);
        due("an empty county", x.county(), 0);
    }

    // 2, 3, 37
    private static void tape() {
        StrangerMarket x = new StrangerMarket();
        for (int k = 1; k <= 47; k++) due("feed " + k, x.feed(-1, 0, Integer.MIN_VALUE, 5, 7), 20 * k);
        due("feed 48", x.feed(1, 2, 3, 4, 5), -1);
        due("full", x.count(5), 940);
        due("end(941)", x.end(941), false);
        due("end(-1)", x.end(-1), false);
        due("end(921)", x.end(921), true);
        due("feed at 921", x.feed(1, 2, 3, 4, 5), -1);
        due("end(920)", x.end(920), true);
        due("feed at 920", x.feed(1, 2, 3, 4, 5), 940);
        due("end(0)", x.end(0), true);
        due("end(1) of none", x.end(1), false);
        due("none", x.count(5), 0);
        // The highest byte comes first, bytes above 127 are bytes too.
        due("county", county(x, "person a 1;person b 1;"), 2);
        due("feed", x.feed(0x00010100, 0xff000000, 0, 0, 0), 20);
        x.end(4);
        due("who by the highest byte first", x.who(), 0);
        x.feed(0x00010000, 0, 0, 0, 0);
        x.end(2);
        due("who", x.who(), 2);
        x.feed(0xff010000, 0, 0, 0, 0);
        x.end(2);
        due("who of 255", x.who(), -1);
    }

    // 4
    private static void countyLimits() {
        StrangerMarket x = new StrangerMarket();
        due("blanks alone", county(x, " \n \n"), 0);
        due("no blanks needed", county(x, "person a 0;person zzzzzzz 99;good g;\nsells\na\ng 9 20;wants zzzzzzz g 009;deals 9;veils 0;bell 30;"), 8);
        due("coins 99", x.person(1, 0), 99);
        due("wants 009", x.person(1, 7), 9);
        due("deals", x.count(2), 9);
        due("veils", x.count(3), 0);
        due("veils today", x.now(4), 0);
        due("bell", x.count(4), 30);
        due("price", x.good(0, 0, 2), 20);
        due("seven and five", county(x, "person a 1;person b 1;person c 1;person d 1;person e 1;person f 1;person g 1;good h;good i;good j;good k;good l;"), 12);
        due("persons", x.count(0), 7);
        due("goods", x.count(1), 5);
        due("a new county has no old things", x.count(2), 2);
        due("nobody may be a name", county(x, "person nobody 1;person sell 1;person da 2;"), 3);
        due("both sorts for two", county(x, "person a 1;person b 1;knows a b;foes b a;"), 4);
        due("both know", x.person(0, 1), 2);
        due("both foes", x.person(1, 2), 1);
    }

    // 4, 5
    private static void countyFaults() {
        dueCounty(";", 0, 1);
        dueCounty(" \nfoo a 1;", 2, 1);
        dueCounty("buys;", 0, 1);
        dueCounty("12;", 0, 1);
        dueCounty("person", 6, 1);
        dueCounty("person 1 1;", 7, 1);
        dueCounty("person abcdefgh 1;", 7, 1);
        dueCounty("person a1 1;", 7, 1);
        dueCounty("person day 1;", 7, 1);
        dueCounty("person friends 1;", 7, 1);
        dueCounty("person a b;", 9, 1);
        dueCounty("person a 1000;", 9, 1);
        dueCounty("person a 1a;", 9, 1);
        dueCounty("person a 100;", 9, 2);
        dueCounty("person a 1", 10, 1);
        dueCounty("person a 1 ", 11, 1);
        dueCounty("person a 1 person", 11, 1);
        dueCounty("person a 1.", 10, 1);
        dueCounty("person a 1;\t", 11, 1);
        dueCounty("person a 1;person a 1;", 18, 3);
        dueCounty("person a 1;good a;", 16, 3);
        dueCounty("good a;person a 1;", 14, 3);
        dueCounty("sells a", 6, 3);
        dueCounty("good g;sells g g 1 1;", 13, 3);
        dueCounty("sells good g 1 1;", 6, 1);
        dueCounty("person a 1;sells a a 1 1;", 19, 3);
        dueCounty("person a 1;good g;sells a g 0 1;", 28, 2);
        dueCounty("person a 1;good g;sells a g 10 1;", 28, 2);
        dueCounty("person a 1;good g;sells a g 1 21;", 30, 2);
        dueCounty("person a 1;good g;sells a g 1;", 29, 1);
        dueCounty("person a 1;good g;wants a g 0;", 28, 2);
        dueCounty("person a 1;good g;wants a g 10;", 28, 2);
        dueCounty("person a 1;good g;wants a g 1 1;", 30, 1);
        dueCounty("person a 1;good g;sells a g 1 0;sells a g 1 0;", 40, 3);
        dueCounty("person a 1;good g;wants a g 1;sells a g 1 0;", 38, 3);
        dueCounty("person a 1;good g;sells a g 1 0;wants a g 1;", 40, 3);
        dueCounty("person a 1;knows a a;", 19, 3);
        dueCounty("person a 1;foes a b;", 18, 3);
        dueCounty("person a 1;person b 1;knows a b;knows b a;", 40, 3);
        dueCounty("person a 1;person b 1;foes a b;foes a b;", 38, 3);
        dueCounty("deals 0;", 6, 2);
        dueCounty("deals 10;", 6, 2);
        dueCounty("deals 1;deals 1;", 8, 3);
        dueCounty("veils 10;", 6, 2);
        dueCounty("veils 0;veils 10;", 8, 3);
        dueCounty("bell 1;", 5, 2);
        dueCounty("bell 31;", 5, 2);
        dueCounty("bell 2;bell 2;", 7, 3);
        dueCounty("person a 1;person b 1;person c 1;person d 1;person e 1;person f 1;person g 1;person", 77, 4);
        dueCounty("good a;good b;good c;good d;good e;good", 35, 4);
        dueCounty("Person a 1;", 0, 1);
        dueCounty("person\u00e9 a 1;", 6, 1);
    }

    // 4, 5, 31, 33: where a text is too long
    private static void textEnds() {
        StrangerMarket x = new StrangerMarket();
        due("900 bytes", county(x, stretched("person a 1;", 893, "good g;")), 2);
        due("900 bytes and no end", county(x, stretched("person a 1;", 894, "good g")), -901);
        due("kind", x.fault(), 1);
        due("901 bytes", county(x, stretched("person a 1;", 901, "")), -901);
        due("a fault ahead of 900", county(x, stretched("person a 100;", 920, "")), -10);
        due("kind", x.fault(), 2);
        due("a word over the edge is whole", county(x, stretched("person a 1;", 898, "deals 1;")), -901);
        due("kind", x.fault(), 1);
        due("a word over the edge is too long", county(x, stretched("person a 1;", 898, "abcdefgh")), -899);
        due("a word over the edge can't come", county(x, stretched("person a 1;", 898, "dealsx 1;")), -899);
        due("a number over the edge is whole", county(x, stretched("person a", 899, "1000;")), -900);
        due("kind", x.fault(), 1);
        due("a number over the edge is too much", county(x, stretched("person a", 899, "100;")), -900);
        due("kind", x.fault(), 2);
        due("a name over the edge is told twice", county(x, stretched("person aa 1;person", 899, "aa 1;")), -900);
        due("kind", x.fault(), 3);
        x = town();
        due("book of 400", book(x, 0, stretched("ann veils;", 394, "day 1;")), -1);
        due("book of 401", book(x, 0, stretched("ann veils;", 401, "")), -402);
        due("kind", x.fault(), 1);
        due("sentence of 200", sentence(x, stretched("fed or", 196, "home")), 2);
        due("sentence of 201", sentence(x, stretched("fed or", 197, "home")), -201);
        due("kind", x.fault(), 1);
        due("sentence of 201, blank", sentence(x, stretched("fed", 201, "")), -201);
    }

    // 4, 5
    private static void faultStays() {
        StrangerMarket x = town();
        due("fault", x.fault(), 0);
        due("county", county(x, "good g; good g;"), -14);
        due("fault", x.fault(), 3);
        due("the county stays", x.count(0), 4);
        due("book(2)", x.book(2), -1000);
        due("a book of -1000 leaves it", x.fault(), 3);
        due("book", book(x, 0, "day 1;"), -1);
        due("a book takes it", x.fault(), 0);
        due("book", book(x, 0, "day 0;"), -6);
        due("fault", x.fault(), 2);
        due("sentence", sentence(x, "fed"), 1);
        due("a sentence takes it", x.fault(), 0);
        due("who leaves the tape empty", who(x, 0), -1);
        due("tape", x.count(5), 0);
    }

    // 6, 7, 8
    private static void personAndGood() {
        StrangerMarket x = town();
        int[][] persons = {{10, 4, 0, 10, 0, 0, 0, 4}, {5, 8, 8, 13, 0, 0, 0, 2}, {0, 1, 0, 10, 0, 0, 0, 0}, {0, 2, 2, 7, 0, 0, 0, 1}};
        for (int p = 0; p < 4; p++) {
            for (int what = 0; what < 8; what++) due("person(" + p + ", " + what + ")", x.person(p, what), persons[p][what]);
        }
        dueThrow(x, 4, 0);
        dueThrow(x, -1, 0);
        dueThrow(x, 0, 8);
        dueThrow(x, 0, -1);
        dueThrow(x, Integer.MIN_VALUE, Integer.MAX_VALUE);
        due("stock", x.good(1, 0, 0), 3);
        due("no stock", x.good(0, 0, 0), 0);
        due("wants", x.good(1, 1, 1), 2);
        due("no wants", x.good(1, 0, 1), 0);
        due("price", x.good(3, 1, 2), 4);
        due("price 0", x.good(2, 0, 2), 0);
        due("no price", x.good(2, 1, 2), -1);
        due("no such", x.good(4, 0, 0), -1);
        due("no such", x.good(-1, 0, 0), -1);
        due("no such", x.good(0, 2, 0), -1);
        due("no such", x.good(0, -1, 0), -1);
        due("no such", x.good(0, 0, 3), -1);
        due("no such", x.good(0, 0, -1), -1);
        due("deals", x.deals(0, 1), 0);
        due("alike", x.deals(2, 2), -1);
        due("no such", x.deals(0, 4), -1);
        due("no such", x.deals(-1, 0), -1);
    }

    // 10, 9
    private static void buying() {
        StrangerMarket x = new StrangerMarket();
        county(x, "person a 3;person b 0;person c 9;person d 0;good g;good h;sells b g 9 1;sells c g 2 1;sells b h 1 2;wants a g 9;wants a h 1;wants c h 1;knows a c;foes b d;veils 2;");
        due("no such", x.buy(4, 0, 0), -1);
        due("no such", x.buy(0, 2, 0), -1);
        due("no such", x.buy(0, 0, -1), -1);
        due("alike ahead of all", x.buy(0, 0, 0), 1);
        due("known", x.buy(0, 0, 2), 3);
        due("none of it, though he does not want it", x.buy(1, 0, 3), 4);
        due("too dear, though he does not want it", x.buy(3, 0, 1), 5);
        due("not wanted", x.buy(2, 0, 1), 6);
        due("first", x.buy(0, 0, 1), 0);
        due("bought", x.now(5), 1);
        due("coins", x.person(0, 0), 2);
        due("coins", x.person(1, 0), 1);
        due("stock", x.good(1, 0, 0), 8);
        due("wants", x.good(0, 0, 1), 8);
        due("one deal", x.deals(1, 0), 1);
        due("not met", x.now(6), 0);
        due("second", x.buy(0, 0, 1), 0);
        due("met", x.now(6), 1);
        due("known", x.person(1, 1), 1);
        due("strangers no more", x.buy(0, 0, 1), 3);
        due("veil of the seller", x.veil(1), 0);
        due("too dear", x.buy(0, 1, 1), 5);
        due("through the veil", x.buy(0, 0, 1), 0);
        due("no deal more", x.deals(0, 1), 2);
        due("no coins", x.buy(0, 0, 1), 5);
        due("veiled with an unknown one", x.buy(2, 1, 1), 0);
        due("no deal", x.deals(1, 2), 0);
        due("none left", x.buy(2, 1, 1), 4);
        due("at home", x.nod(3, 0), 0);
        due("one at home", x.buy(3, 0, 0), 2);
        due("the other at home", x.buy(0, 0, 3), 2);
        due("alike and at home", x.buy(3, 0, 3), 1);
    }

    // 10: who KNOW one another and are FOES deal on, and MET by their DEALS
    private static void buyingFoes() {
        StrangerMarket x = new StrangerMarket();
        county(x, "person a 9;person b 0;good g;sells b g 9 0;wants a g 9;knows a b;foes b a;deals 3;");
        for (int k = 1; k <= 9; k++) {
            due("foes deal", x.buy(0, 0, 1), 0);
            due("deals", x.deals(0, 1), k);
            due("met", x.now(6), k >= 3 ? 1 : 0);
        }
        due("none left", x.buy(0, 0, 1), 4);
        due("nod of the known", x.nod(0, 1), 3);
    }

    // 11
    private static void nodding() {
        StrangerMarket x = town();
        due("no such", x.nod(0, 4), -1);
        due("no such", x.nod(-1, 0), -1);
        due("alike", x.nod(0, 0), 1);
        due("known", x.nod(0, 2), 3);
        due("nod", x.nod(0, 1), 0);
        due("home", x.now(1), 1);
        due("home", x.person(0, 4), 1);
        due("the other is not", x.person(1, 4), 0);
        due("met", x.now(6), 1);
        due("at home ahead of known", x.nod(0, 1), 2);
        due("at home, the other", x.nod(1, 0), 2);
        due("alike ahead of home", x.nod(0, 0), 1);
    }

    // 12
    private static void veiling() {
        StrangerMarket x = town();
        due("no such", x.veil(4), -1);
        due("no such", x.veil(-1), -1);
        due("veil", x.veil(3), 0);
        due("veiled", x.now(2), 8);
        due("veiled", x.person(3, 5), 1);
        due("veils", x.now(4), 0);
        due("veiled already", x.veil(3), 1);
        due("none left", x.veil(0), 2);
        county(x, "person a 1;person b 1;veils 0;");
        due("none at all", x.veil(0), 2);
        county(x, "person a 1;person b 1;");
        x.nod(0, 1);
        due("at home one may", x.veil(0), 0);
    }

    // 13
    private static void telling() {
        StrangerMarket x = new StrangerMarket();
        county(x, "person a 1;person b 1;person c 1;person d 1;knows a b;knows a c;knows a d;knows c d;bell 2;");
        due("no such", x.tell(0, 1, 4), -1);
        due("no such", x.tell(0, -1, 2), -1);
        due("alike", x.tell(0, 0, 1), 1);
        due("alike", x.tell(0, 1, 0), 1);
        due("alike", x.tell(0, 1, 1), 1);
        due("does not know", x.tell(1, 0, 2), 2);
        due("does not know", x.tell(1, 2, 0), 2);
        due("they know", x.tell(0, 2, 3), 3);
        due("tell", x.tell(0, 1, 2), 0);
        due("met", x.now(6), 1);
        due("nobody goes home", x.now(1), 0);
        due("again", x.tell(0, 2, 1), 3);
        due("told on", x.tell(2, 3, 1), 0);
        x.days(2);
        due("forgotten", x.now(6), 0);
        due("told ones are known for ever", x.person(0, 1), 14);
    }

    // 14, 9
    private static void days() {
        StrangerMarket x = town();
        due("days(0)", x.days(0), -1);
        due("days(61)", x.days(61), -1);
        due("days(-5)", x.days(-5), -1);
        x.buy(0, 0, 1);
        x.buy(0, 0, 1);
        x.nod(2, 1);
        x.veil(0);
        due("met", x.now(6), 2);
        due("days(1)", x.days(1), 1);
        due("day", x.now(0), 1);
        due("home", x.now(1), 0);
        due("veiled", x.now(2), 0);
        due("veils", x.now(4), 1);
        due("stock", x.good(1, 0, 0), 3);
        due("wants", x.good(0, 0, 1), 3);
        due("hunger of the first", x.person(0, 6), 2);
        due("hunger of all", x.now(7), 5);
        due("coins stay", x.person(0, 0), 6);
        due("met stays", x.now(6), 2);
        due("bought stays", x.now(5), 2);
        due("days(1)", x.days(1), 1);
        due("met stays", x.now(6), 2);
        due("days(1)", x.days(1), 1);
        due("the bell", x.now(6), 0);
        due("the bell", x.deals(0, 1), 0);
        due("days(60)", x.days(60), 60);
        for (int k = 0; k < 5; k++) due("days(60)", x.days(60), 60);
        due("days(60)", x.days(60), 37);
        due("all are over", x.now(0), 400);
        due("no more", x.days(1), 0);
        due("no more drawn", x.drawn(5, 1), 0);
        due("still an act", x.nod(2, 1), 0);
        due("undo", x.undo(), 7);
        due("undo of the last days", x.undo(), 6);
        due("day", x.now(0), 363);
        county(x, "person a 1;person b 1;");
        x.nod(0, 1);
        for (int k = 0; k < 7; k++) x.days(60);
        due("no bell, no forgetting", x.now(6), 1);
    }

    // 14: HUNGER has a most
    private static void hunger() {
        StrangerMarket x = new StrangerMarket();
        county(x, "person a 1;person b 1;good p;good q;good r;good s;good t;wants a p 9;wants a q 9;wants a r 9;wants a s 9;wants a t 9;wants b p 1;");
        for (int k = 0; k < 4; k++) x.days(60);
        due("hunger of 222 days less", x.person(0, 6), 9999);
        due("of the other", x.person(1, 6), 240);
        due("of all", x.now(7), 10239);
        x.undo();
        due("hunger of 180 days", x.person(0, 6), 8100);
        x.days(42);
        due("hunger of 222 days", x.person(0, 6), 9990);
    }

    // 15
    private static void undoing() {
        StrangerMarket x = town();
        due("nothing", x.undo(), -1);
        due("buy", x.buy(0, 0, 1), 0);
        due("not done", x.buy(0, 0, 0), 1);
        due("not done", x.nod(0, 0), 1);
        due("not done", x.tell(0, 0, 0), 1);
        due("not done", x.days(0), -1);
        due("not done", x.drawn(0, 1), -1);
        due("veil", x.veil(0), 0);
        due("not done", x.veil(0), 1);
        due("nod", x.nod(0, 1), 0);
        due("tell", x.tell(0, 1, 2), 0);
        due("days", x.days(2), 2);
        due("drawn", x.drawn(3, 5), 3);
        due("book judged", book(x, 0, "day 1;"), -1);
        due("book without lines", book(x, 1, ""), -1);
        due("book wrong at once", book(x, 1, "ann nods ann;day 1;"), 0);
        due("book lived in part", book(x, 1, "day 2;ann nods ann;"), 1);
        due("day", x.now(0), 7);
        due("undo the book", x.undo(), 6);
        due("day", x.now(0), 5);
        due("undo drawn", x.undo(), 5);
        due("day", x.now(0), 2);
        due("undo days", x.undo(), 4);
        due("day", x.now(0), 0);
        due("met", x.now(6), 2);
        due("undo tell", x.undo(), 3);
        due("met", x.now(6), 1);
        due("undo nod", x.undo(), 2);
        due("met", x.now(6), 0);
        due("home", x.now(1), 0);
        due("veiled", x.now(2), 1);
        due("undo veil", x.undo(), 1);
        due("veiled", x.now(2), 0);
        due("veils", x.now(4), 1);
        due("undo buy", x.undo(), 0);
        due("coins", x.person(0, 0), 10);
        due("bought", x.now(5), 0);
        due("deals", x.deals(0, 1), 0);
        due("nothing", x.undo(), -1);
        for (int k = 0; k < 20; k++) x.days(1);
        for (int k = 7; k >= 0; k--) due("eight are kept", x.undo(), k);
        due("nothing", x.undo(), -1);
        due("day", x.now(0), 12);
        x.days(1);
        county(x, "Faulty");
        due("a faulty county leaves it", x.undo(), 0);
        x.days(1);
        county(x, TOWN);
        due("nothing of another county", x.undo(), -1);
    }

    // 16
    private static void most() {
        StrangerMarket x = town();
        due("bread: ann 2 of bob's, dan 1", x.most(0), 3);
        due("oil", x.most(1), 2);
        due("no such", x.most(2), -1);
        due("no such", x.most(-1), -1);
        x.buy(0, 0, 1);
        due("one deal left", x.most(0), 2);
        x.buy(0, 0, 1);
        due("none left, dan's is", x.most(0), 1);
        x.veil(0);
        due("veils no matter", x.most(0), 1);
        x.nod(3, 0);
        due("home no matter", x.most(0), 1);
        due("met now", x.most(1), 2);
        x.tell(3, 1, 0);
        county(x, "person a 0;person b 0;person c 0;person d 0;good g;sells a g 5 20;sells b g 4 20;wants c g 6;wants d g 9;deals 3;knows b c;foes a d;");
        due("coins no matter: a 5, b 3 to d", x.most(0), 8);
        county(x, "person a 0;person b 0;good g;sells a g 9 0;wants b g 8;foes a b;knows a b;deals 1;");
        due("foes as often as one likes", x.most(0), 8);
        county(x, "person a 0;person b 0;good g;sells a g 9 0;wants b g 8;deals 1;");
        due("others not", x.most(0), 1);
        county(x, "good g;");
        due("nobody", x.most(0), 0);
    }

    // 17, 18
    private static void masked() {
        StrangerMarket x = town();
        due("none", who(x), -1);
        due("odd", who(x, 0, 1, 1), -1);
        due("no such", who(x, 4, 1), -1);
        due("neither", who(x, 0, 2), -1);
        due("ask ahead", x.ask(), -1);
        due("who may not with cid", who(x, 2, 0), 1);
        due("ask of one", x.ask(), 0);
        due("who may with cid", who(x, 2, 1), 10);
        due("ask", x.ask(), 1);
        due("nobody", who(x, 0, 1, 0, 0), 0);
        due("not as told", who(x, 9, 0), -1);
        due("ask stays", x.ask(), 1);
        due("eight", who(x, 2, 1, 2, 1, 2, 1, 2, 1, 2, 1, 2, 1, 2, 1, 2, 1), 10);
        due("nine", who(x, 2, 1, 2, 1, 2, 1, 2, 1, 2, 1, 2, 1, 2, 1, 2, 1, 2, 1), -1);
        county(x, "person a 0;person b 0;person c 0;person d 0;person e 0;knows a b;knows c d;");
        due("ask is as it was", x.ask(), 1);
        due("who", who(x, 4, 1), 15);
        due("halves: a and b may not with a", x.ask(), 0);
        due("who", who(x, 0, 1), 28);
        due("c, d may not with c", x.ask(), 2);
        due("the told are left out", who(x, 4, 1, 0, 0), 2);
    }

    // 19, 20
    private static void serving() {
        StrangerMarket x = town();
        due("no such", x.serve(2), -1);
        due("no such", x.serve(-1), -1);
        due("ahead of any", x.serving(), -1);
        due("bread", x.serve(0), 1);
        due("by bob", x.serving(), 2);
        due("oil", x.serve(1), 1);
        due("by dan", x.serving(), 8);
        x.nod(0, 3);
        due("ann knows dan", x.serve(1), -1);
        due("it stays", x.serving(), 8);
        county(x, "person a 0;person b 0;person c 0;person d 0;person e 0;good g;good h;good i;sells a g 1 0;sells b g 1 0;sells c g 1 0;wants d g 1;wants e g 1;knows a d;knows c e;knows b d;knows b e;sells a h 1 0;wants b i 1;");
        due("two are needed", x.serve(0), 2);
        due("a and c", x.serving(), 5);
        due("nobody wants it", x.serve(1), 0);
        due("nobody", x.serving(), 0);
        due("nobody sells it", x.serve(2), -1);
        county(x, "person a 0;person b 0;person c 0;good g;sells a g 1 0;sells b g 1 0;wants c g 1;");
        due("either", x.serve(0), 1);
        due("the least", x.serving(), 1);
        x.buy(2, 0, 0);
        due("as told, not as left", x.serve(0), 1);
        due("the least", x.serving(), 1);
    }

    // 21, 22
    private static void chains() {
        StrangerMarket x = town();
        due("alike", x.chain(0, 0), -1);
        due("no such", x.chain(0, 4), -1);
        due("no such", x.chain(-1, 0), -1);
        due("by one", x.chain(0, 2), 1);
        due("the first of two", x.chainAt(0), 1);
        due("none such", x.chainAt(1), -1);
        due("none such", x.chainAt(-1), -1);
        due("foes", x.chain(1, 3), 0);
        due("nobody between", x.chainAt(0), -1);
        // A row a-c-e-b-d where only neighbours may.
        county(x, "person a 0;person b 0;person c 0;person d 0;person e 0;knows a b;knows a d;knows a e;knows b c;knows c d;knows d e;");
        due("three between", x.chain(0, 3), 3);
        due("0", x.chainAt(0), 2);
        due("1", x.chainAt(1), 4);
        due("2", x.chainAt(2), 1);
        due("3", x.chainAt(3), -1);
        due("back", x.chain(3, 0), 3);
        due("0", x.chainAt(0), 1);
        due("2", x.chainAt(2), 2);
        county(x, "person a 0;person b 0;person c 0;knows a b;knows a c;");
        due("none", x.chain(0, 1), -1);
        due("it stays", x.chainAt(1), 4);
    }

    // 23
    private static void outs() {
        StrangerMarket x = new StrangerMarket();
        county(x, "person a 0;");
        due("alone", x.out(0), 0);
        due("no such", x.out(1), -1);
        due("no such", x.out(-1), -1);
        county(x, "person a 0;person b 0;person c 0;person d 0;knows a b;knows b c;");
        due("never all", x.out(0), -1);
        due("meet", x.nod(3, 2), 0);
        due("by three", x.out(0), 3);
        due("by two", x.out(1), 2);
        county(x, "person a 0;person b 0;person c 0;person d 0;person e 0;person f 0;person g 0;knows a b;knows b c;knows c d;knows d e;knows e f;knows f g;");
        due("by six", x.out(0), 6);
        due("from the middle", x.out(3), 3);
    }

    // 24, 25
    private static void parting() {
        StrangerMarket x = town();
        due("alike", x.apart(1, 1), -1);
        due("no such", x.apart(0, 4), -1);
        due("no such", x.apart(-1, 0), -1);
        due("known", x.apart(0, 2), -1);
        due("ahead of any", x.parting(), -1);
        due("apart already", x.apart(0, 1), 0);
        due("nobody", x.parting(), 0);
        county(x, "person a 0;person b 0;person c 0;person d 0;person e 0;knows a b;knows a c;knows b d;knows c d;knows d e;");
        due("one", x.apart(0, 4), 1);
        due("dan", x.parting(), 8);
        due("two", x.apart(3, 0), 2);
        due("both", x.parting(), 6);
        due("known", x.apart(0, 1), -1);
        due("it stays", x.parting(), 6);
        county(x, "person a 0;person b 0;person c 0;person d 0;knows a c;knows c d;knows d b;");
        due("either", x.apart(0, 1), 1);
        due("the least", x.parting(), 4);
    }

    // 26
    private static void recluse() {
        StrangerMarket x = town();
        due("the first", x.recluse(), 0);
        x.nod(0, 1);
        due("cid and dan have one", x.recluse(), 2);
        county(x, "person a 0;person b 0;person c 0;knows a b;");
        due("who knows none", x.recluse(), 2);
        county(x, "good g;");
        due("nobody", x.recluse(), -1);
    }

    // 27, 28
    private static void faces() {
        StrangerMarket x = new StrangerMarket();
        county(x, "person abcdefg 0;person b 0;person zz 0;veils 2;");
        dueFace(x, 0, "abcdefg knows nobody");
        x.nod(0, 2);
        x.nod(1, 2);
        x.tell(2, 1, 0);
        dueFace(x, 2, "zz knows abcdefg b");
        dueFace(x, 0, "abcdefg knows b zz home");
        x.veil(0);
        x.veil(2);
        dueFace(x, 2, "zz knows abcdefg b veiled");
        dueFace(x, 0, "abcdefg knows b zz veiled home");
        due("no such", x.face(3), -1);
        due("no such", x.face(-1), -1);
        due("the latest stays", x.byteAt(0), 'a');
        due("none such", x.byteAt(-1), -1);
        due("none such", x.byteAt(Integer.MAX_VALUE), -1);
        county(x, "person aaaaaaa 0;person bbbbbbb 0;person ccccccc 0;person ddddddd 0;person eeeeeee 0;person fffffff 0;person ggggggg 0;"
                + "knows aaaaaaa bbbbbbb;knows aaaaaaa ccccccc;knows aaaaaaa ddddddd;knows aaaaaaa eeeeeee;knows aaaaaaa fffffff;");
        x.nod(0, 6);
        x.veil(0);
        dueFace(x, 0, "aaaaaaa knows bbbbbbb ccccccc ddddddd eeeeeee fffffff ggggggg veiled home");
    }

    private static int seed;

    private static int draw(int n) {
        seed = seed * 1103515245 + 12345;
        return (seed >>> 8) % n;
    }

    // 29: the days lived once more by single calls
    private static void drawing() {
        for (int first = -3; first < 40; first++) {
            StrangerMarket x = town();
            StrangerMarket y = town();
            due("drawn", x.drawn(7, first * 77777), 7);
            seed = first * 77777;
            for (int day = 0; day < 7; day++) {
                for (int p = 0; p < 4; p++) {
                    int what = draw(6);
                    if (what < 3) {
                        int g = draw(2);
                        y.buy(p, g, draw(4));
                    } else if (what == 3) {
                        y.nod(p, draw(4));
                    } else if (what == 4) {
                        y.veil(p);
                    }
                }
                y.days(1);
            }
            for (int what = 0; what < 8; what++) {
                due("drawn now(" + what + ")", x.now(what), y.now(what));
                for (int p = 0; p < 4; p++) due("drawn person", x.person(p, what), y.person(p, what));
            }
            due("one undo", x.undo(), 0);
            due("day", x.now(0), 0);
            due("coins", x.person(0, 0), 10);
        }
        StrangerMarket x = town();
        due("drawn(0)", x.drawn(0, 1), -1);
        due("drawn(61)", x.drawn(61, 1), -1);
        due("drawn(60)", x.drawn(60, 1), 60);
        for (int k = 0; k < 5; k++) x.days(60);
        x.days(38);
        due("drawn to the end", x.drawn(5, 1), 2);
        // Without GOODS a buyer makes no draws behind the first: the next PERSON draws at once.
        for (int first = 0; first < 40; first++) {
            county(x, "person a 0;person b 0;person c 0;veils 3;");
            StrangerMarket y = new StrangerMarket();
            county(y, "person a 0;person b 0;person c 0;veils 3;");
            x.drawn(2, first);
            seed = first;
            for (int day = 0; day < 2; day++) {
                for (int p = 0; p < 3; p++) {
                    if (draw(6) == 3) y.nod(p, draw(3));
                }
                y.days(1);
            }
            for (int p = 0; p < 3; p++) due("drawn without goods", x.person(p, 1), y.person(p, 1));
        }
    }

    // 30
    private static void odds() {
        StrangerMarket x = town();
        due("no such", x.odds(4, 1, 1), -1);
        due("no such", x.odds(-1, 1, 1), -1);
        due("no such", x.odds(0, 0, 1), -1);
        due("no such", x.odds(0, 31, 1), -1);
        x.buy(0, 0, 1);
        for (int p = 0; p < 4; p++) {
            int richer = 0;
            for (int k = 0; k < 30; k++) {
                int coins = x.person(p, 0);
                x.drawn(10, Integer.MAX_VALUE - 7 + k);
                if (x.person(p, 0) > coins) richer++;
                x.undo();
            }
            due("odds of " + p, x.odds(p, 30, Integer.MAX_VALUE - 7), richer);
        }
        due("all stays", x.now(0), 0);
        due("all stays", x.now(5), 1);
        due("the one act is there to undo", x.undo(), 0);
        for (int k = 0; k < 7; k++) x.days(60);
        due("no days are left", x.odds(1, 30, 3), 0);
    }

    // 31, 5
    private static void bookFaults() {
        dueBook(";", 0, 1);
        dueBook("zed veils;", 0, 3);
        dueBook("oil veils;", 0, 3);
        dueBook("buys veils;", 0, 1);
        dueBook("ann", 3, 1);
        dueBook("ann ;", 4, 1);
        dueBook("ann sells", 4, 1);
        dueBook("ann veils", 9, 1);
        dueBook("ann buys bob oil;", 9, 3);
        dueBook("ann buys oil oil;", 13, 3);
        dueBook("ann buys 1 oil;", 9, 1);
        dueBook("ann buys oil day;", 13, 1);
        dueBook("ann nods oil;", 9, 3);
        dueBook("ann nods bob bob;", 13, 1);
        dueBook("ann tells bob;", 13, 1);
        dueBook("ann tells bob zed;", 14, 3);
        dueBook("day;", 3, 1);
        dueBook("day 0;", 4, 2);
        dueBook("day 61;", 4, 2);
        dueBook("day 1;ann veils bob;", 16, 1);
        dueBook("day 1;".repeat(40) + "day", 240, 4);
        dueBook("day 1;".repeat(40) + " ann", 241, 4);
        dueBook("day 1;".repeat(40) + "zed", 240, 3);
        dueBook("day 1;".repeat(40) + ";", 240, 1);
        dueBook("day 1;".repeat(40) + "veils", 240, 1);
    }

    private static void dueWrong(StrangerMarket x, String head, String line, int why) {
        int lines = head.isEmpty() ? 0 : 1;
        due("book '" + head + line + "'", book(x, 0, head + line + ";day 5;"), lines);
        due("why '" + line + "'", x.told(0), why);
        due("lines ahead of '" + line + "'", x.told(1), lines);
        due("day of '" + line + "'", x.told(2), 0);
    }

    // 31, 32
    private static void books() {
        StrangerMarket x = town();
        lay(x, "day 1;");
        due("book(2)", x.book(2), -1000);
        due("book(-1)", x.book(-1), -1000);
        due("the tape stays", x.count(5), 6);
        due("told ahead of any", x.told(0), -1);
        due("book(0)", x.book(0), -1);
        due("the tape is empty", x.count(5), 0);
        due("not lived", x.now(0), 0);
        due("why", x.told(0), 0);
        due("lines", x.told(1), 1);
        due("day then", x.told(2), 1);
        due("fed then", x.told(3), 4);
        due("other", x.told(4), -1);
        due("other", x.told(-1), -1);
        due("fed by buying", book(x, 0, "dan buys bread cid;ann buys oil dan;bob buys oil dan;"), -1);
        due("fed then", x.told(3), 12);
        due("forty lines", book(x, 0, "day 1;".repeat(40)), -1);
        due("lines", x.told(1), 40);
        due("day then", x.told(2), 40);
        dueWrong(x, "", "ann buys bread ann", 1);
        dueWrong(x, "", "ann buys bread cid", 3);
        dueWrong(x, "", "ann buys oil bob", 4);
        dueWrong(x, "", "dan buys bread bob", 5);
        dueWrong(x, "", "bob buys bread cid", 6);
        dueWrong(x, "ann nods bob;", "ann buys oil dan", 2);
        dueWrong(x, "", "ann nods ann", 11);
        dueWrong(x, "bob nods ann;", "bob nods cid", 12);
        dueWrong(x, "", "ann nods cid", 13);
        dueWrong(x, "ann veils;", "ann veils", 21);
        dueWrong(x, "bob veils;", "ann veils", 22);
        dueWrong(x, "", "ann tells ann bob", 31);
        dueWrong(x, "", "ann tells cid bob", 32);
        due("known two", book(x, 0, "ann nods bob;bob tells ann dan;bob tells dan ann;"), 2);
        due("why", x.told(0), 33);
        due("nothing lived", x.now(5), 0);
        due("a fault leaves told", book(x, 0, "day;"), -5);
        due("why", x.told(0), 33);
        due("lived as far", book(x, 1, "ann buys bread bob; day 2; ann buys bread ann; day 1;"), 2);
        due("lines", x.told(1), 2);
        due("lived", x.now(0), 2);
        due("lived", x.now(5), 1);
        due("one undo", x.undo(), 0);
        due("undone", x.now(5), 0);
        for (int k = 0; k < 6; k++) x.days(60);
        due("fewer days are left", book(x, 1, "day 39;day 2;"), 1);
        due("why", x.told(0), 41);
        due("day then", x.told(2), 399);
        due("no part of a line", x.now(0), 399);
        due("just as many", book(x, 1, "day 1;"), -1);
        due("over", x.now(0), 400);
        due("over", book(x, 1, "day 1;"), 0);
        due("why", x.told(0), 41);
    }

    // 33, 5
    private static void sentenceFaults() {
        dueSentence("", 0, 1);
        dueSentence("  ", 2, 1);
        dueSentence("ann", 0, 1);
        dueSentence("and", 0, 1);
        dueSentence("fed fed", 4, 1);
        dueSentence("fed or", 6, 1);
        dueSentence("fed or )", 7, 1);
        dueSentence("(fed", 4, 1);
        dueSentence("fed)", 3, 1);
        dueSentence("()", 1, 1);
        dueSentence("knows", 5, 1);
        dueSentence("knows zed", 6, 3);
        dueSentence("knows oil", 6, 3);
        dueSentence("knows fed", 6, 1);
        dueSentence("wants ann", 6, 3);
        dueSentence("wants 1", 6, 1);
        dueSentence("coins 1", 6, 1);
        dueSentence("coins ; 1", 6, 1);
        dueSentence("coins < ann", 8, 1);
        dueSentence("coins < 1000", 8, 1);
        dueSentence("buys", 0, 1);
        dueSentence("day", 0, 1);
        dueSentence("deals < 1", 0, 1);
        dueSentence("fed or ".repeat(20) + "fed", 140, 4);
        dueSentence("fed or ".repeat(20) + "ann", 140, 1);
        dueSentence("not ".repeat(8) + "fed", 32, 4);
        dueSentence("not ".repeat(8) + "oil", 32, 1);
        dueSentence("(((((((( fed", 9, 4);
        dueSentence("(((((((((", 8, 4);
    }

    // 33, 34
    private static void sentences() {
        StrangerMarket x = town();
        due("no sentence", x.said(-1), -1);
        due("no sentence", x.said(0), -1);
        dueSaid(x, "fed", 1, 2);
        dueSaid(x, "not fed", 2, 0, 1, 3);
        dueSaid(x, "knows bob", 1, 3);
        dueSaid(x, "wants oil", 1, 0, 1);
        dueSaid(x, "coins=0", 1, 2, 3);
        dueSaid(x, "coins<10", 1, 1, 2, 3);
        dueSaid(x, "coins>5", 1, 0);
        dueSaid(x, "coins<999", 1, 0, 1, 2, 3);
        dueSaid(x, "number>1", 1, 2, 3);
        dueSaid(x, "friends=1", 1, 0, 1, 2, 3);
        dueSaid(x, "friends>1", 1);
        dueSaid(x, "number=0 or number=1 and number=2", 3, 0);
        dueSaid(x, "(number=0 or number=1) and number=0", 4, 0);
        dueSaid(x, "number=0 and number=1 or number=2 or number=3 and fed", 5, 2);
        dueSaid(x, "not number=0 and not number=1", 4, 2, 3);
        dueSaid(x, "not (number=0 or number=1)", 4, 2, 3);
        dueSaid(x, "not not number=0", 3, 0);
        dueSaid(x, "not not not not not not not fed", 8, 0, 1, 3);
        dueSaid(x, "(((((((fed)))))))", 8, 2);
        dueSaid(x, "fed or ".repeat(19) + "fed", 20, 2);
        dueSaid(x, "sold", 1);
        x.buy(3, 0, 2);
        dueSaid(x, "sold", 1, 2);
        dueSaid(x, "fed", 1, 2, 3);
        x.nod(0, 1);
        x.veil(1);
        dueSaid(x, "home", 1, 0);
        dueSaid(x, "veiled", 1, 1);
        dueSaid(x, "knows ann", 1, 1, 2);
        dueSaid(x, "friends>1", 1, 0, 1);
        dueSaid(x, "home or veiled", 2, 0, 1);
        x.days(1);
        due("said of what is so now", x.said(-1), 0);
        dueSaid(x, "hunger>1", 1, 0, 1);
        dueSaid(x, "hunger=0", 1, 2, 3);
        x.undo();
        due("undo leaves the sentence", x.said(-1), 4);
        county(x, TOWN);
        due("a new county has none", x.said(-1), -1);
    }

    // 35, 36
    private static void images() {
        StrangerMarket x = town();
        due("image(2)", x.image(2), false);
        due("image(-1)", x.image(-1), false);
        due("restore(2)", x.restore(2), false);
        due("restore(-1)", x.restore(-1), false);
        due("restore(0)", x.restore(0), false);
        due("restore(1)", x.restore(1), false);
        due("sentence", sentence(x, "wants oil"), 1);
        x.buy(0, 0, 1);
        x.face(0);
        due("image(1)", x.image(1), true);
        due("still nothing in 0", x.restore(0), false);
        due("undo behind an image", x.undo(), 0);
        sentence(x, "fed");
        x.nod(2, 1);
        x.veil(3);
        x.days(4);
        x.drawn(2, 9);
        x.image(0);
        due("serve", x.serve(1), 1);
        county(x, "person q 7;good w;wants q w 2;deals 9;");
        x.days(2);
        x.face(0);
        county(x, "Faulty");
        x.feed(1, 2, 3, 4, 5);
        due("restore(1)", x.restore(1), true);
        due("nothing can be undone", x.undo(), -1);
        due("the tape stays", x.count(5), 20);
        due("the fault stays", x.fault(), 1);
        due("the face stays", x.byteAt(0), 'q');
        due("serving stays", x.serving(), 8);
        due("persons", x.count(0), 4);
        due("deals", x.count(2), 2);
        due("bell", x.count(4), 3);
        due("day", x.now(0), 0);
        due("bought", x.now(5), 1);
        due("deals had", x.deals(0, 1), 1);
        due("coins", x.person(0, 0), 8);
        due("stock", x.good(1, 0, 0), 2);
        due("hunger", x.now(7), 0);
        due("home", x.now(1), 0);
        due("the sentence", x.said(-1), 2);
        dueFace(x, 1, "bob knows dan");
        due("restore(0)", x.restore(0), true);
        due("day", x.now(0), 6);
        due("the other sentence", x.said(-1), 1);
        x.days(1);
        due("an image is not lived on", x.restore(0), true);
        due("day", x.now(0), 6);
        due("image over an image", x.image(1), true);
        x.days(1);
        due("restore(1)", x.restore(1), true);
        due("day", x.now(0), 6);
        StrangerMarket y = new StrangerMarket();
        due("image of the new", y.image(0), true);
        county(y, TOWN);
        due("restore of the new", y.restore(0), true);
        due("persons", y.count(0), 0);
    }

    // The two runs that README.md shows
    private static void readme() {
        StrangerMarket x = new StrangerMarket();
        due("readme feed", x.feed(0x70657273, 0x6f6e2061, 0x6e6e2039, 0x3b202020, 0x20202020), 20);
        due("readme end", x.end(13), true);
        due("readme county", x.county(), 1);
        due("readme coins", x.person(0, 0), 9);
        due("readme days", x.days(1), 1);
        due("readme undo", x.undo(), 0);
        due("readme second county", county(x, "person ann 10;person bob 5;good bread;sells bob bread 3 2;wants ann bread 3;deals 2;"), 6);
        due("readme most", x.most(0), 2);
        due("readme first buy", x.buy(0, 0, 1), 0);
        due("readme second buy", x.buy(0, 0, 1), 0);
        due("readme third buy", x.buy(0, 0, 1), 3);
        due("readme veil", x.veil(0), 0);
        due("readme veiled buy", x.buy(0, 0, 1), 0);
        due("readme face", x.face(0), 20);
        dueFace(x, 0, "ann knows bob veiled");
        due("readme undo of a buy", x.undo(), 3);
        due("readme book", book(x, 0, "day 1; bob nods ann;"), 1);
        due("readme told", x.told(0), 13);
        due("readme sentence", sentence(x, "coins > 5 and not veiled"), 3);
        due("readme how many", x.said(StrangerMarket.NONE), 1);
        due("readme who", x.said(0), 1);
    }
}
