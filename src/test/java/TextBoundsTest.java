/**
 * Every bound that the document names for its texts, in its order: the last that is as told, and the first on either
 * side that is not. The sentence that is tested stands ahead of each method.
 */
final class TextBoundsTest extends Desk {
    private static final String[] WORDS = {"person", "good", "sells", "wants", "knows", "foes", "deals", "veils", "bell", "buys",
        "nods", "tells", "day", "or", "and", "not", "home", "veiled", "fed", "sold", "coins", "friends", "hunger", "number"};
    private static final String TWO = "person a 1;person b 1;";
    private static final String SHOP = "person a 1;good g;";
    private static final String SEVEN = "person a 1;person b 1;person c 1;person d 1;person e 1;person f 1;person g 1;";

    public static void main(String[] args) {
        wordsOneToSeven();
        numbersOneToThree();
        blanksBetweenOrNot();
        lettersAndDigits();
        signs();
        goesOnAsLong();
        countyNumbers();
        countyWithout();
        unlikeAndOnce();
        sellsOrWantsOnce();
        namesNoneOfThose();
        namesToldOnce();
        sevenPersonsFiveGoods();
        numberedFromZero();
        lineEnds();
        countyBytes();
        bookBytes();
        sentenceBytes();
        bookLines();
        bookDays();
        bookLineParts();
        sentenceOnes();
        sentenceWithin();
        sentenceParts();
        sentenceNumbers();
        sentenceKinds();
        firstAlongTheText();
        leastOfOneToken();
        atTheEnd();
        toldAgain();
        tellAndExit("TextBoundsTest");
    }

    private static void dueLines(String text, int lines) {
        StrangerMarket x = new StrangerMarket();
        due("county '" + text + "'", county(x, text), lines);
        due("fault of county '" + text + "'", x.fault(), 0);
        due("tape behind county '" + text + "'", x.count(5), 0);
    }

    private static void dueRight(String text, int lines) {
        StrangerMarket x = town();
        due("book '" + text + "'", book(x, 0, text), -1);
        due("fault of book '" + text + "'", x.fault(), 0);
        due("lines of book '" + text + "'", x.told(1), lines);
        due("tape behind book '" + text + "'", x.count(5), 0);
    }

    private static void dueOnes(String text, int ones) {
        StrangerMarket x = town();
        due("sentence '" + text + "'", sentence(x, text), ones);
        due("fault of sentence '" + text + "'", x.fault(), 0);
        due("tape behind sentence '" + text + "'", x.count(5), 0);
    }

    // "WORDS: small letters, 1 to 7"
    private static void wordsOneToSeven() {
        dueLines("person a 1;", 1);
        dueLines("person abcdefg 1;", 1);
        dueCounty("person abcdefgh 1;", 7, 1);
        dueCounty("person abcdefghijklmnopqrstuvwxyz 1;", 7, 1);
        dueCounty("person 1;", 7, 1);
        dueLines("good z;", 1);
        dueLines("good zzzzzzz;", 1);
        dueCounty("good zzzzzzzz;", 5, 1);
        dueCounty("good ;", 5, 1);
        // The first seven letters are a NAME that was told, the eighth makes it no TOKEN.
        dueCounty("person abcdefg 1;person b 1;knows abcdefgh b;", 34, 1);
        dueCounty("persons a 1;", 0, 1);
        dueBook("anna veils;", 0, 3);
        dueBook("annabell veils;", 0, 1);
        dueOnes("friends=1", 1);
        dueSentence("friendss=1", 0, 1);
        // Letters that differ in their last place, or by one more letter, are other NAMES.
        dueLines("person abcdefg 1;person abcdefh 1;person abcdef 1;person bcdefg 1;person aabcdef 1;", 5);
    }

    // "NUMBERS: 1 to 3 digits"
    private static void numbersOneToThree() {
        dueLines("person a 0;", 1);
        dueLines("person a 00;", 1);
        dueLines("person a 000;", 1);
        dueCounty("person a 0000;", 9, 1);
        dueCounty("person a ;", 9, 1);
        dueLines("person a 099;", 1);
        dueCounty("person a 0099;", 9, 1);
        dueCounty("person a 999;", 9, 2);
        dueCounty("person a 1000;", 9, 1);
        dueCounty("person a 99999999999999999999;", 9, 1);
        // 2 to the 32nd and 1: no small number by wrapping.
        dueCounty("person a 4294967297;", 9, 1);
        dueRight("day 001;", 1);
        dueBook("day 0001;", 4, 1);
        dueOnes("coins<000", 1);
        dueOnes("coins<999", 1);
        dueSentence("coins<1000", 6, 1);
        dueSentence("coins<0000", 6, 1);
        StrangerMarket x = new StrangerMarket();
        county(x, "person a 007;person b 010;");
        due("007", x.person(0, 0), 7);
        due("010", x.person(1, 0), 10);
    }

    // "with blanks (32, 10) between them or not"
    private static void blanksBetweenOrNot() {
        dueLines("", 0);
        dueLines(" ", 0);
        dueLines("\n", 0);
        dueLines("\n \nperson\n\na \n 1\n;\n ", 1);
        dueLines("deals 1;veils 1;bell 2;", 3);
        dueRight("ann\nveils\n;\nday\n1;\n", 2);
        dueRight("", 0);
        dueRight(" \n", 0);
        dueOnes("\nfed\nor not\n(\ncoins\n<\n1\n)\n", 4);
        dueOnes("not(fed)or(coins<1 and home)", 6);
        int[] others = {0, 1, 9, 11, 13, 31, 33, 127, 128, 160, 255, 10 + 128, 32 + 128};
        for (int b : others) {
            String sign = String.valueOf((char) b);
            dueCounty(sign, 0, 1);
            dueCounty("person" + sign + "a 1;", 6, 1);
            dueCounty("person a 1;" + sign, 11, 1);
            dueBook("day" + sign + "1;", 3, 1);
            dueSentence("fed" + sign, 3, 1);
        }
    }

    // "small letters", "digits": what stands beside them in the table of signs is no TOKEN
    private static void lettersAndDigits() {
        dueLines("person abcdefg 1;person hijklmn 1;person opqrstu 1;person vwxyz 1;", 4);
        dueLines("person a 23;person b 45;person c 67;person d 89;person e 01;", 5);
        for (char sign : new char[] {'`', '{', 'A', 'Z', '@', '[', 'a' + 128, 'z' + 128}) {
            dueCounty("person " + sign + " 1;", 7, 1);
            dueCounty("person a" + sign + " 1;", 8, 1);
        }
        for (char sign : new char[] {'/', ':', '-', '+', '0' + 128, '9' + 128}) {
            dueCounty("person a " + sign + ";", 9, 1);
            dueCounty("person a 1" + sign + ";", 10, 1);
        }
    }

    // "; < = > ( )"
    private static void signs() {
        dueCounty("person a 1:", 10, 1);
        for (char sign : new char[] {'<', '=', '>', '(', ')', '.', ','}) {
            dueCounty(sign + "person a 1;", 0, 1);
            dueCounty("person a 1" + sign, 10, 1);
            dueBook("day 1" + sign, 5, 1);
        }
        dueOnes("coins<1", 1);
        dueOnes("coins=1", 1);
        dueOnes("coins>1", 1);
        for (char sign : new char[] {';', ':', '?', '(', ')', '!', '.'}) dueSentence("coins" + sign + "1", 5, 1);
        dueSentence("coins<=1", 6, 1);
        dueSentence("coins<>1", 6, 1);
        dueSentence("coins==1", 6, 1);
        dueOnes("(fed)", 2);
        for (char sign : new char[] {'\'', '*', '[', '<', '.'}) {
            dueSentence(sign + "fed)", 0, 1);
            dueSentence("(fed" + sign, 4, 1);
        }
        dueSentence("fed;", 3, 1);
        dueSentence("fed.", 3, 1);
    }

    // "A WORD, NUMBER goes on as long as small letters and digits do; what is not as told is no TOKEN."
    private static void goesOnAsLong() {
        dueCounty("person a1 1;", 7, 1);
        dueCounty("person 1a 1;", 7, 1);
        dueCounty("person a 1a;", 9, 1);
        dueCounty("person a a1;", 9, 1);
        dueCounty("persona 1;", 0, 1);
        dueCounty("deals1;", 0, 1);
        dueCounty("deals 1veils 1;", 6, 1);
        dueBook("day1;", 0, 1);
        dueBook("ann veils1;", 4, 1);
        dueSentence("coins<1or fed", 6, 1);
        dueSentence("notfed", 0, 1);
        dueSentence("fed1", 0, 1);
    }

    private static void dueNumbers(String head, int least, int most, String tail, int lines) {
        for (int n = least; n <= most; n++) dueLines(head + n + tail, lines);
        if (least > 0) dueCounty(head + (least - 1) + tail, head.length(), 2);
        dueCounty(head + (most + 1) + tail, head.length(), 2);
        dueCounty(head + 999 + tail, head.length(), 2);
        if (tail.equals(";")) dueCounty(head + tail, head.length(), 1);
        dueCounty(head + "a" + tail, head.length(), 1);
    }

    // "COINS (0 to 99)", "N PRICE (1 to 9; 0 to 20)", "N (1 to 9)", 'deals', 'veils', 'bell'
    private static void countyNumbers() {
        dueNumbers("person a ", 0, 99, ";", 1);
        dueNumbers(SHOP + "sells a g ", 1, 9, " 0;", 3);
        dueNumbers(SHOP + "sells a g 1 ", 0, 20, ";", 3);
        dueNumbers(SHOP + "wants a g ", 1, 9, ";", 3);
        dueNumbers("deals ", 1, 9, ";", 1);
        dueNumbers("veils ", 0, 9, ";", 1);
        dueNumbers("bell ", 2, 30, ";", 1);
        StrangerMarket x = new StrangerMarket();
        county(x, "person a 99;person b 0;good g;sells a g 9 20;wants b g 9;deals 9;veils 9;bell 30;");
        due("coins", x.person(0, 0), 99);
        due("stock", x.good(0, 0, 0), 9);
        due("price", x.good(0, 0, 2), 20);
        due("wants", x.good(1, 0, 1), 9);
        due("deals", x.count(2), 9);
        due("veils", x.count(3), 9);
        due("veils today", x.now(4), 9);
        due("bell", x.count(4), 30);
        county(x, "person a 0;person b 0;good g;sells a g 1 0;wants b g 1;deals 1;veils 0;bell 2;");
        due("coins", x.person(0, 0), 0);
        due("stock", x.good(0, 0, 0), 1);
        due("price", x.good(0, 0, 2), 0);
        due("wants", x.good(1, 0, 1), 1);
        due("deals", x.count(2), 1);
        due("veils", x.count(3), 0);
        due("veils today", x.now(4), 0);
        due("bell", x.count(4), 2);
    }

    // "2 without", "1 without", "none without"
    private static void countyWithout() {
        StrangerMarket x = new StrangerMarket();
        county(x, "deals 9;veils 9;bell 30;");
        county(x, "person a 1;");
        due("deals", x.count(2), 2);
        due("veils", x.count(3), 1);
        due("veils today", x.now(4), 1);
        due("bell", x.count(4), 0);
        // Told 2, 1 may be told once only, too.
        dueCounty("deals 2;deals 2;", 8, 3);
        dueCounty("veils 1;veils 1;", 8, 3);
    }

    // "knows PERSON PERSON, foes PERSON PERSON (unlike; each two once of a sort, in whatever order)"
    private static void unlikeAndOnce() {
        int at = TWO.length();
        for (String sort : new String[] {"knows ", "foes "}) {
            int n = sort.length();
            dueLines(TWO + sort + "a b;", 3);
            dueCounty(TWO + sort + "a a;", at + n + 2, 3);
            dueCounty(TWO + sort + "b b;", at + n + 2, 3);
            dueCounty(TWO + sort + "a b;" + sort + "a b;", at + 2 * n + 6, 3);
            dueCounty(TWO + sort + "a b;" + sort + "b a;", at + 2 * n + 6, 3);
            dueCounty(TWO + sort + "a;", at + n + 1, 1);
            dueCounty(TWO + sort + "a b a;", at + n + 4, 1);
            dueCounty(TWO + sort + "a c;", at + n + 2, 3);
            dueCounty(TWO + sort + "c a;", at + n, 3);
            dueCounty(TWO + sort + "c c;", at + n, 3);
            dueLines(TWO + "person c 1;" + sort + "a b;" + sort + "c b;" + sort + "a c;", 6);
        }
        dueLines(TWO + "knows a b;foes a b;", 4);
        dueLines(TWO + "foes b a;knows a b;", 4);
        dueCounty(TWO + "knows a b;foes b a;knows b a;", at + 27, 3);
        StringBuilder all = new StringBuilder(SEVEN);
        for (char p = 'a'; p <= 'g'; p++) {
            for (char q = 'a'; q < p; q++) all.append("knows ").append(p).append(' ').append(q).append(";foes ").append(q).append(' ').append(p).append(';');
        }
        dueLines(all.toString(), 49);
        StrangerMarket x = new StrangerMarket();
        county(x, all.toString());
        for (int p = 0; p < 7; p++) {
            due("all known", x.person(p, 1), 127 & ~(1 << p));
            due("all foes", x.person(p, 2), 127 & ~(1 << p));
            due("all may", x.person(p, 3), 127 & ~(1 << p));
        }
    }

    // "One sells or wants a GOOD, not both, each once."
    private static void sellsOrWantsOnce() {
        String two = "person a 1;person b 1;good g;good h;";
        int at = two.length();
        dueLines(two + "sells a g 1 0;sells a h 1 0;sells b g 1 0;wants b h 1;", 8);
        dueCounty(two + "sells a g 1 0;sells a g 1 0;", at + 22, 3);
        dueCounty(two + "sells a g 1 0;wants a g 1;", at + 22, 3);
        dueCounty(two + "wants a g 1;sells a g 1 0;", at + 20, 3);
        dueCounty(two + "wants a g 1;wants a g 1;", at + 20, 3);
        // A price of 0 is sold all the same.
        dueCounty(two + "sells b h 9 0;wants b h 10;", at + 22, 3);
        StringBuilder all = new StringBuilder(SEVEN + "good v;good w;good x;good y;good z;");
        int lines = 12;
        for (char p = 'a'; p <= 'g'; p++) {
            for (char g = 'v'; g <= 'z'; g++) {
                all.append("wants ").append(p).append(' ').append(g).append(" 9;");
                lines++;
            }
        }
        dueLines(all.toString(), lines);
        StrangerMarket x = new StrangerMarket();
        county(x, all.toString());
        for (int p = 0; p < 7; p++) due("wants of all goods", x.person(p, 7), 45);
    }

    // "NAME: a WORD, none of those told here, in a BOOK or a SENTENCE"
    private static void namesNoneOfThose() {
        for (String word : WORDS) {
            dueCounty("person " + word + " 1;", 7, 1);
            dueCounty("good " + word + ";", 5, 1);
            dueCounty(SHOP + "sells " + word + " g 1 1;", 24, 1);
            dueCounty(SHOP + "sells a " + word + " 1 1;", 26, 1);
            dueCounty(SHOP + "knows a " + word + ";", 26, 1);
            dueBook("ann nods " + word + ";", 9, 1);
            dueBook("ann buys " + word + " bob;", 9, 1);
            dueSentence("knows " + word, 6, 1);
            dueSentence("wants " + word, 6, 1);
            String less = word.substring(0, word.length() - 1);
            dueLines("person " + less + " 1;", 1);
            if (word.length() < 7) dueLines("good " + word + "s;", 1);
            if (!word.equals("day")) dueBook(word + " veils;", 0, 1);
        }
        dueLines("person nobody 1;good coin;person knew 1;", 3);
    }

    // "told once" (of both sorts together)
    private static void namesToldOnce() {
        dueCounty("person a 1;person a 1;", 18, 3);
        dueCounty("good a;good a;", 12, 3);
        dueCounty("person a 1;good a;", 16, 3);
        dueCounty("good a;person a 1;", 14, 3);
        dueLines("person a 1;good aa;person aaa 1;", 3);
        // Of another sort: the first and the last of each.
        String twelve = SEVEN + "good v;good w;good x;good y;good z;";
        int at = twelve.length();
        for (String good : new String[] {"v", "z"}) {
            dueCounty(twelve + "sells " + good + " v 1 1;", at + 6, 3);
            dueCounty(twelve + "wants " + good + " v 1;", at + 6, 3);
            dueCounty(twelve + "knows " + good + " a;", at + 6, 3);
            dueCounty(twelve + "foes a " + good + ";", at + 7, 3);
        }
        for (String person : new String[] {"a", "g"}) {
            dueCounty(twelve + "sells a " + person + " 1 1;", at + 8, 3);
            dueCounty(twelve + "wants a " + person + " 1;", at + 8, 3);
        }
        dueCounty(SEVEN + "good g;", 82, 3);
        dueCounty("good a;good b;good c;good d;good e;person e 1;", 42, 3);
        // One must be told ahead of its use.
        dueCounty("sells a g 1 1;" + SHOP, 6, 3);
        dueCounty("person a 1;sells a g 1 1;good g;", 19, 3);
        dueCounty("person a 1;knows a b;person b 1;", 19, 3);
        // A NAME of the COUNTY before, or of a faulty one, is not told in this one.
        StrangerMarket x = town();
        due("county", county(x, "person zed 1;knows zed ann;"), -24);
        due("fault", x.fault(), 3);
        due("zed is nobody", book(x, 0, "zed veils;"), -2);
        due("fault", x.fault(), 3);
        due("ann is somebody", book(x, 0, "ann veils;"), -1);
    }

    // "7 PERSONS, 5 GOODS at most"; "4 one more than there may be of a sort (at the LINE's first WORD)"
    private static void sevenPersonsFiveGoods() {
        String five = "good v;good w;good x;good y;good z;";
        dueLines(SEVEN, 7);
        dueLines(five, 5);
        dueLines(SEVEN + five, 12);
        dueCounty(SEVEN + "person h 1;", SEVEN.length(), 4);
        dueCounty(SEVEN + "person", SEVEN.length(), 4);
        dueCounty(SEVEN + "person a 1;", SEVEN.length(), 4);
        dueCounty(SEVEN + "  person 1;", SEVEN.length() + 2, 4);
        dueCounty(SEVEN + five + "person h 1;", SEVEN.length() + 35, 4);
        dueCounty(five + "good u;", 35, 4);
        dueCounty(five + "good", 35, 4);
        dueCounty(five + "good v;", 35, 4);
        dueCounty(five + SEVEN + "good u;", SEVEN.length() + 35, 4);
        StrangerMarket x = new StrangerMarket();
        county(x, SEVEN + five);
        due("seven", x.count(0), 7);
        due("five", x.count(1), 5);
        due("the last person", x.person(6, 0), 1);
        dueThrow(x, 7, 0);
        due("the last good", x.good(6, 4, 0), 0);
        due("no sixth good", x.good(6, 5, 0), -1);
        due("no eighth person", x.good(7, 4, 0), -1);
    }

    // "numbered from 0 each"
    private static void numberedFromZero() {
        StrangerMarket x = new StrangerMarket();
        county(x, "good u;person a 11;good v;person b 22;sells b v 3 4;");
        due("the first person", x.person(0, 0), 11);
        due("the second person", x.person(1, 0), 22);
        due("the second good", x.good(1, 1, 0), 3);
        due("the first good", x.good(1, 0, 0), 0);
    }

    // "{ LINE ; }": each LINE has its end
    private static void lineEnds() {
        dueCounty("deals 1", 7, 1);
        dueCounty("deals 1 veils 1;", 8, 1);
        dueCounty("deals 1;;", 8, 1);
        dueCounty(";deals 1;", 0, 1);
        dueCounty("deals 1 1;", 8, 1);
        dueCounty("good g 1;", 7, 1);
        dueCounty("person a 1 1;", 11, 1);
        dueCounty(SHOP + "sells a g 1 1 1;", SHOP.length() + 14, 1);
        dueBook("day 1", 5, 1);
        dueBook("day 1;;", 6, 1);
        dueBook("day 1 day 1;", 6, 1);
        dueBook("ann veils bob;", 10, 1);
        dueBook("ann nods cid dan;", 13, 1);
        dueBook("ann buys oil dan dan;", 17, 1);
        dueBook("ann tells cid dan bob;", 18, 1);
    }

    // "A COUNTY is a text of at most 900 bytes"; "the most bytes told, if there are more and no FAULT is ahead"
    private static void countyBytes() {
        dueLines(stretched("deals 1;", 892, "veils 1;"), 2);
        dueLines(stretched("deals 1;", 893, "bell 2;"), 2);
        dueCounty(stretched("deals 1;", 893, "veils 1;"), 900, 1);
        dueLines(stretched("", 900, ""), 0);
        dueCounty(stretched("", 901, ""), 900, 1);
        dueCounty(stretched("", 940, ""), 900, 1);
        dueCounty(stretched("deals 1;", 901, ""), 900, 1);
        dueCounty(stretched("deals 1;", 939, "\t"), 900, 1);
        dueCounty(stretched("deals 1;", 900, "\t"), 900, 1);
        dueCounty(stretched("deals 1;", 899, "\t"), 899, 1);
        dueCounty(stretched("deals 10;", 940, ""), 6, 2);
        // The end of 899 and of 900 bytes is how many there are.
        dueCounty(stretched("deals 1", 899, ""), 899, 1);
        dueCounty(stretched("deals 1", 900, ""), 900, 1);
        // A TOKEN that begins ahead of byte 900 is read whole, another is not read.
        dueCounty(stretched("person a", 899, "100;"), 899, 2);
        dueCounty(stretched("person a", 900, "100;"), 900, 1);
        dueCounty(stretched("person a", 899, "1000;"), 899, 1);
        dueCounty(stretched("person a", 899, "99;"), 900, 1);
        dueCounty(stretched("person ab 1;good", 899, "ab;"), 899, 3);
        dueCounty(stretched("person ab 1;good", 900, "ab;"), 900, 1);
        dueCounty(stretched("person ab 1;good", 899, "ac;"), 900, 1);
        dueCounty(stretched("person a 1;good", 899, "ab;"), 900, 1);
        dueCounty(stretched("good", 899, "abcdefg;"), 900, 1);
        dueCounty(stretched("good", 899, "abcdefgh;"), 899, 1);
        dueCounty(stretched(SEVEN, 899, "person h 1;"), 899, 4);
        dueCounty(stretched(SEVEN, 900, "person h 1;"), 900, 1);
        dueCounty(stretched("deals 1;", 899, "deals 1;"), 899, 3);
        dueCounty(stretched("deals 1;", 900, "deals 1;"), 900, 1);
        dueCounty(stretched("deals 1;", 899, ";"), 899, 1);
    }

    // "A BOOK is a text of at most 400 bytes"
    private static void bookBytes() {
        dueRight(stretched("day 1;", 394, "day 1;"), 2);
        dueBook(stretched("day 1;", 395, "day 1;"), 400, 1);
        dueRight(stretched("", 400, ""), 0);
        dueBook(stretched("", 401, ""), 400, 1);
        dueBook(stretched("day 1;", 940, ""), 400, 1);
        dueBook(stretched("day 61;", 940, ""), 4, 2);
        dueBook(stretched("day 1", 399, ""), 399, 1);
        dueBook(stretched("day 1", 400, ""), 400, 1);
        dueBook(stretched("day", 399, "61;"), 399, 2);
        dueBook(stretched("day", 400, "61;"), 400, 1);
        dueBook(stretched("day", 399, "60;"), 400, 1);
        dueBook(stretched("ann nods", 399, "oil;"), 399, 3);
        dueBook(stretched("ann nods", 400, "oil;"), 400, 1);
        dueBook(stretched("ann nods", 399, "bob;"), 400, 1);
        dueBook(stretched("day 1;".repeat(40), 399, "ann veils;"), 399, 4);
        dueBook(stretched("day 1;".repeat(40), 400, "ann veils;"), 400, 1);
        dueBook(stretched("ann", 399, "veilsxxx;"), 399, 1);
        // A BOOK that is too long lives in no part.
        StrangerMarket x = town();
        due("too long", book(x, 1, stretched("day 1;", 401, "")), -402);
        due("nothing lived", x.now(0), 0);
    }

    // "A SENTENCE is a text of at most 200 bytes"
    private static void sentenceBytes() {
        dueOnes(stretched("fed or", 197, "fed"), 2);
        dueOnes(stretched("fed", 200, ""), 1);
        dueSentence(stretched("fed or", 198, "fed"), 200, 1);
        dueSentence(stretched("fed", 201, ""), 200, 1);
        dueSentence(stretched("fed", 940, ""), 200, 1);
        dueSentence(stretched("fed;", 940, ""), 3, 1);
        dueSentence(stretched("", 200, ""), 200, 1);
        dueSentence(stretched("", 201, ""), 200, 1);
        dueSentence(stretched("knows", 199, "oil"), 199, 3);
        dueSentence(stretched("knows", 200, "oil"), 200, 1);
        dueSentence(stretched("knows", 199, "ann"), 200, 1);
        dueSentence(stretched("coins<", 199, "1000"), 199, 1);
        dueSentence(stretched("coins<", 199, "999"), 200, 1);
        dueSentence(stretched("fed or ".repeat(20), 199, "fed"), 199, 4);
        dueSentence(stretched("fed or ".repeat(20), 200, "fed"), 200, 1);
        dueSentence(stretched("not ".repeat(8), 199, "fed"), 199, 4);
        dueSentence(stretched("fed", 199, "fed"), 199, 1);
        dueSentence(stretched("fed", 198, "fed"), 198, 1);
    }

    // "{ LINE ; }, 40 at most"; "a 41st LINE of a BOOK (at the LINE's first WORD)"
    private static void bookLines() {
        dueRight("day 1;".repeat(39), 39);
        dueRight("day 1;".repeat(40), 40);
        dueRight("day 1;".repeat(40) + " \n", 40);
        dueBook("day 1;".repeat(41), 240, 4);
        dueBook("day 1;".repeat(40) + "\n day 99", 242, 4);
        dueBook("day 1;".repeat(40) + "day", 240, 4);
        dueBook("day 1;".repeat(40) + "ann", 240, 4);
        dueBook("day 1;".repeat(40) + "dan buys oil oil;", 240, 4);
        dueBook("day 1;".repeat(39) + "day 1", 239, 1);
        // A LINE that is WRONG is a LINE.
        StrangerMarket x = town();
        due("wrong at once, but forty", book(x, 0, "ann nods ann;" + "day 1;".repeat(39)), 0);
        due("wrong at once, but too many", book(x, 0, "ann nods ann;" + "day 1;".repeat(40)), -249);
        due("kind", x.fault(), 4);
        due("the fortieth is wrong", book(x, 0, "day 1;".repeat(39) + "ann nods ann;"), 39);
        due("lines", x.told(1), 39);
    }

    // "'day' N (1 to 60)"
    private static void bookDays() {
        for (int n = 1; n <= 60; n++) {
            StrangerMarket x = town();
            due("day " + n, book(x, 0, "day " + n + ";"), -1);
            due("then", x.told(2), n);
        }
        dueBook("day 0;", 4, 2);
        dueBook("day 61;", 4, 2);
        dueBook("day 999;", 4, 2);
        dueBook("day 1000;", 4, 1);
        dueBook("day ;", 4, 1);
        dueBook("day ann;", 4, 1);
    }

    // "PERSON ( 'buys' GOOD PERSON | 'nods' PERSON | 'veils' | 'tells' PERSON PERSON )"
    private static void bookLineParts() {
        dueRight("dan buys bread cid;ann nods bob;ann tells bob cid;ann veils;", 4);
        dueBook("ann", 3, 1);
        dueBook("ann;", 3, 1);
        dueBook("ann ann", 4, 1);
        dueBook("ann oil", 4, 1);
        dueBook("ann day", 4, 1);
        dueBook("ann sells", 4, 1);
        dueBook("ann deals", 4, 1);
        dueBook("ann veiled;", 4, 1);
        dueBook("ann buys", 8, 1);
        dueBook("ann buys;", 8, 1);
        dueBook("ann buys oil", 12, 1);
        dueBook("ann buys oil;", 12, 1);
        dueBook("ann buys zed dan;", 9, 3);
        dueBook("ann buys bob dan;", 9, 3);
        dueBook("ann buys 1 dan;", 9, 1);
        dueBook("ann buys oil zed;", 13, 3);
        dueBook("ann buys oil oil;", 13, 3);
        dueBook("ann buys oil 1;", 13, 1);
        dueBook("ann buys oil dan", 16, 1);
        dueBook("ann nods", 8, 1);
        dueBook("ann nods;", 8, 1);
        dueBook("ann nods zed;", 9, 3);
        dueBook("ann nods oil;", 9, 3);
        dueBook("ann nods 1;", 9, 1);
        dueBook("ann nods bob", 12, 1);
        dueBook("ann tells", 9, 1);
        dueBook("ann tells;", 9, 1);
        dueBook("ann tells zed bob;", 10, 3);
        dueBook("ann tells oil bob;", 10, 3);
        dueBook("ann tells bob", 13, 1);
        dueBook("ann tells bob;", 13, 1);
        dueBook("ann tells bob zed;", 14, 3);
        dueBook("ann tells bob oil;", 14, 3);
        dueBook("ann tells bob 1;", 14, 1);
        dueBook("zed veils;", 0, 3);
        dueBook("oil veils;", 0, 3);
        dueBook("bread veils;", 0, 3);
        dueBook("ann nods bread;", 9, 3);
        dueBook("ann buys dan dan;", 9, 3);
        dueBook("1 veils;", 0, 1);
        dueBook("(ann veils);", 0, 1);
        dueBook("person ann 1;", 0, 1);
        // Alike ones are WRONG, which is no FAULT.
        StrangerMarket x = town();
        due("alike", book(x, 0, "ann buys oil ann;"), 0);
        due("fault", x.fault(), 0);
        due("why", x.told(0), 1);
        due("alike", book(x, 0, "ann nods ann;"), 0);
        due("why", x.told(0), 11);
        due("alike", book(x, 0, "ann tells bob bob;"), 0);
        due("why", x.told(0), 31);
        due("fault", x.fault(), 0);
    }

    // "20 ONES"; "a 21st ONE (at its first TOKEN)"
    private static void sentenceOnes() {
        dueOnes("fed", 1);
        dueOnes("fed or ".repeat(18) + "fed", 19);
        dueOnes("fed or ".repeat(19) + "fed", 20);
        dueSentence("fed or ".repeat(20) + "fed", 140, 4);
        dueOnes("fed and ".repeat(19) + "fed", 20);
        dueSentence("fed and ".repeat(20) + "fed", 160, 4);
        // Each not, bracket and other one counts.
        dueOnes("(not fed) or ".repeat(6) + "not fed", 20);
        dueSentence("(not fed) or ".repeat(6) + "not not fed", 86, 4);
        dueSentence("(not fed) or ".repeat(6) + "not fed or fed", 89, 4);
        dueSentence("(not fed) or ".repeat(6) + "not(fed", 82, 4);
        dueOnes("(fed) or ".repeat(10).substring(0, 86), 20);
        dueSentence("(fed) or ".repeat(10) + "(", 90, 4);
        dueSentence("(fed) or ".repeat(10) + "not", 90, 4);
        dueSentence("fed or ".repeat(20) + "coins", 140, 4);
        dueSentence("fed or ".repeat(20) + "knows zed", 140, 4);
        dueSentence("fed or ".repeat(20), 140, 1);
        dueSentence("fed or ".repeat(20) + ")", 140, 1);
        // A SENTENCE of twenty is said as one of one is.
        StrangerMarket x = town();
        dueSaid(x, "number=0 or ".repeat(10) + "fed or ".repeat(9) + "fed", 20, 0, 2);
        dueSaid(x, "fed and ".repeat(19) + "home", 20);
        dueSaid(x, "not home and ".repeat(9) + "not fed", 20, 0, 1, 3);
    }

    // "8 within one another"; "a ninth within (at its first TOKEN)"
    private static void sentenceWithin() {
        dueOnes("not ".repeat(7) + "fed", 8);
        dueSentence("not ".repeat(8) + "fed", 32, 4);
        dueSentence("not ".repeat(9) + "fed", 32, 4);
        dueOnes("(".repeat(7) + "fed" + ")".repeat(7), 8);
        dueSentence("(".repeat(8) + "fed" + ")".repeat(8), 8, 4);
        dueSentence("(".repeat(9), 8, 4);
        dueSentence("(".repeat(8) + "not", 8, 4);
        dueSentence("(".repeat(8) + "oil", 8, 1);
        dueSentence("(".repeat(8) + ")", 8, 1);
        dueSentence("(".repeat(8), 8, 1);
        dueOnes("not(not(not(not fed)))", 8);
        dueSentence("not(not(not(not(fed))))", 16, 4);
        // ONES beside one another are not within one another.
        dueOnes("((((((fed or (fed))))))) or not not not not not not not fed", 17);
        dueOnes("((((((fed) and (fed) and (fed) and (fed) and (fed) and fed)))))", 16);
        dueSentence("fed or not not not not not not not not fed", 39, 4);
        StrangerMarket x = town();
        dueSaid(x, "not ".repeat(7) + "fed", 8, 0, 1, 3);
        dueSaid(x, "not ".repeat(6) + "fed", 7, 2);
        dueSaid(x, "(".repeat(7) + "fed" + ")".repeat(7), 8, 2);
    }

    // "COND: ALL { 'or' ALL }. ALL: ONE { 'and' ONE }."
    private static void sentenceParts() {
        dueSentence("", 0, 1);
        dueSentence("or fed", 0, 1);
        dueSentence("and fed", 0, 1);
        dueSentence("fed or", 6, 1);
        dueSentence("fed and", 7, 1);
        dueSentence("fed or or fed", 7, 1);
        dueSentence("fed and or fed", 8, 1);
        dueSentence("fed or and fed", 7, 1);
        dueSentence("fed home", 4, 1);
        dueSentence("fed not home", 4, 1);
        dueSentence("fed (home)", 4, 1);
        dueSentence("not", 3, 1);
        dueSentence("not or", 4, 1);
        dueSentence("(", 1, 1);
        dueSentence(")", 0, 1);
        dueSentence("()", 1, 1);
        dueSentence("(fed", 4, 1);
        dueSentence("(fed or", 7, 1);
        dueSentence("(fed))", 5, 1);
        dueSentence("fed)", 3, 1);
        dueSentence("((fed)", 6, 1);
        StrangerMarket x = town();
        // 'and' binds ahead of 'or', 'not' ahead of both.
        dueSaid(x, "number=0 or number=1 and number=2", 3, 0);
        dueSaid(x, "number=2 and number=1 or number=0", 3, 0);
        dueSaid(x, "(number=0 or number=1) and number=2", 4);
        dueSaid(x, "not number=0 or number=0", 3, 0, 1, 2, 3);
        dueSaid(x, "not number=0 and number=0", 3);
        dueSaid(x, "not (number=0 or number=1)", 4, 2, 3);
        dueSaid(x, "not (number=0) or number=1", 4, 1, 2, 3);
    }

    // "SIGN NUMBER": 0 to 999, just below, the same, just above
    private static void sentenceNumbers() {
        StrangerMarket x = town();
        dueSaid(x, "coins<5", 1, 2, 3);
        dueSaid(x, "coins<6", 1, 1, 2, 3);
        dueSaid(x, "coins=5", 1, 1);
        dueSaid(x, "coins>5", 1, 0);
        dueSaid(x, "coins>4", 1, 0, 1);
        dueSaid(x, "coins<0", 1);
        dueSaid(x, "coins>0", 1, 0, 1);
        dueSaid(x, "coins>999", 1);
        dueSaid(x, "coins=010", 1, 0);
        dueSaid(x, "friends<1", 1);
        dueSaid(x, "friends=1", 1, 0, 1, 2, 3);
        dueSaid(x, "friends>1", 1);
        dueSaid(x, "number<1", 1, 0);
        dueSaid(x, "number=3", 1, 3);
        dueSaid(x, "number>2", 1, 3);
        dueSaid(x, "number>3", 1);
        x.days(1);
        dueSaid(x, "hunger<4", 1, 1, 2, 3);
        dueSaid(x, "hunger=4", 1, 0);
        dueSaid(x, "hunger>3", 1, 0);
        dueSaid(x, "hunger>4", 1);
        dueSentence("coins", 5, 1);
        dueSentence("coins<", 6, 1);
        dueSentence("coins<ann", 6, 1);
        dueSentence("coins 5", 6, 1);
        dueSentence("hunger<(5)", 7, 1);
        // HUNGER and coins beyond all NUMBERS are greater than each of them.
        county(x, "person a 0;good g;wants a g 9;");
        for (int k = 0; k < 2; k++) x.days(60);
        dueSaid(x, "hunger>999", 1, 0);
        dueSaid(x, "hunger=999", 1);
        dueSaid(x, "hunger<999", 1);
    }

    // "'home' | 'veiled' | 'fed' | 'sold' | 'knows' PERSON | 'wants' GOOD (some, still)"
    private static void sentenceKinds() {
        StrangerMarket x = new StrangerMarket();
        county(x, "person a 9;person b 0;good g;sells b g 1 0;wants a g 1;");
        dueSaid(x, "sold", 1);
        x.buy(0, 0, 1);
        dueSaid(x, "sold", 1, 1);
        county(x, "person a 9;person b 0;person c 0;good g;good h;sells b g 1 0;sells b h 1 0;wants a g 1;wants a h 1;wants c g 1;");
        dueSaid(x, "sold", 1);
        dueSaid(x, "fed", 1, 1);
        dueSaid(x, "wants g", 1, 0, 2);
        x.buy(0, 0, 1);
        // Something of all is left, though none of one GOOD; who sells nothing is not sold.
        dueSaid(x, "sold", 1);
        dueSaid(x, "wants g", 1, 2);
        dueSaid(x, "wants h", 1, 0);
        dueSaid(x, "fed", 1, 1);
        x.buy(0, 1, 1);
        dueSaid(x, "sold", 1, 1);
        dueSaid(x, "fed", 1, 0, 1);
        dueSaid(x, "wants h", 1);
        dueSaid(x, "knows b", 1, 0);
        dueSaid(x, "knows a", 1, 1);
        dueSaid(x, "knows c", 1);
        dueSaid(x, "home or veiled", 2);
        x.veil(2);
        x.nod(2, 0);
        dueSaid(x, "home", 1, 2);
        dueSaid(x, "veiled", 1, 2);
        dueSentence("knows", 5, 1);
        dueSentence("knows oil", 6, 3);
        dueSentence("knows zed", 6, 3);
        dueSentence("knows 1", 6, 1);
        dueSentence("wants", 5, 1);
        dueSentence("wants ann", 6, 3);
        dueSentence("wants zed", 6, 3);
        dueSentence("wants 1", 6, 1);
        for (String word : new String[] {"person", "good", "sells", "foes", "deals", "veils", "bell", "buys", "nods", "tells", "day", "or", "and"}) {
            dueSentence(word, 0, 1);
        }
        dueSentence("ann", 0, 1);
        dueSentence("1", 0, 1);
        // It is said of PERSONS: without any, of nobody.
        county(x, "good g;");
        dueSaid(x, "not wants g", 2);
    }

    // "FAULTS, the first along the text"
    private static void firstAlongTheText() {
        dueCounty("deals 0;person a 100;", 6, 2);
        dueCounty("person a 100;deals 0;", 9, 2);
        dueCounty("knows a b;?", 6, 3);
        dueCounty("deals 10 ?", 6, 2);
        dueCounty("deals 1 ?;deals 1;", 8, 1);
        dueCounty(SHOP + "sells a h 0 21;", 26, 3);
        dueCounty(SHOP + "sells b h 0 21;", 24, 3);
        dueCounty(SHOP + "sells a g 0 21;", 28, 2);
        dueBook("ann buys zed zed;", 9, 3);
        dueBook("zed buys zed zed;", 0, 3);
        dueBook("day 61;zed", 4, 2);
        dueSentence("coins<1000 or knows zed", 6, 1);
        dueSentence("knows zed or coins<1000", 6, 3);
    }

    // "of one TOKEN the least"
    private static void leastOfOneToken() {
        // No TOKEN ahead of a NAME, a NUMBER, one too many.
        dueCounty(SEVEN + "persons", 77, 1);
        dueCounty(SEVEN + "person1", 77, 1);
        dueCounty("deals 1;deals1", 8, 1);
        dueCounty("person a 1;person b 1;knows a a1;", 30, 1);
        dueBook("day 1;".repeat(40) + "ann1", 240, 1);
        dueBook("day 1;".repeat(40) + "nods", 240, 1);
        dueBook("day 1;".repeat(40) + "oil", 240, 3);
        dueBook("day 1;".repeat(40) + "zed", 240, 3);
        dueSentence("fed or ".repeat(20) + "zed", 140, 1);
        dueSentence("fed or ".repeat(20) + "fed1", 140, 1);
        dueSentence("not ".repeat(8) + "day", 32, 1);
    }

    // "1 no TOKEN, or one that can't come (at it; the end: how many bytes there are)"
    private static void atTheEnd() {
        String[] parts = {"person", "a", "1", ";", "good", "g", ";", "sells", "a", "g", "1", "1", ";", "deals", "1", ";"};
        StringBuilder text = new StringBuilder();
        for (int k = 0; k < parts.length; k++) {
            text.append(parts[k]).append(' ');
            boolean isLine = parts[k].equals(";");
            if (!isLine) dueCounty(text.toString(), text.length(), 1);
            if (!isLine) dueCounty(text.substring(0, text.length() - 1), text.length() - 1, 1);
        }
        dueLines(text.toString(), 4);
    }

    // "'deals', 'veils', 'bell' told again (at the WORD)"
    private static void toldAgain() {
        for (String word : new String[] {"deals", "veils", "bell"}) {
            int n = word.length() + 3;
            dueLines(word + " 2;", 1);
            dueCounty(word + " 2;" + word + " 2;", n, 3);
            dueCounty(word + " 2;" + word + " 99;", n, 3);
            dueCounty(word + " 2;" + word + "", n, 3);
            dueCounty(word + " 2;person a 1; " + word + " 2;", n + 12, 3);
        }
        dueLines("deals 2;veils 2;bell 2;", 3);
    }
}
