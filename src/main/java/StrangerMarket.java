import java.util.Arrays;
import java.util.NoSuchElementException;

/** A market where nobody may buy from whom he knows; ../shared/DOC.md tells what each call promises. */
public final class StrangerMarket {
    public static final int NONE = -1;

    private static final int MOST_PERSONS = 7;
    private static final int MOST_GOODS = 5;
    private static final int CELLS = 35;
    private static final int PAIRS = 49;
    private static final int ALL_DAYS = 400;
    private static final int DAYS_AT_ONCE = 60;
    private static final int MOST_HUNGER = 9999;
    private static final int MOST_KEPT = 8;
    private static final int MOST_SEEDS = 30;
    private static final int ODDS_DAYS = 10;
    private static final int MOST_HINTS = 8;
    /** More than all stocks of a GOOD together. */
    private static final int AS_OFTEN_AS_ONE_LIKES = 999;
    private static final int NO_SUCH_LIVES = -1000;

    private static final int FAULT_TOKEN = 1;
    private static final int FAULT_NUMBER = 2;
    private static final int FAULT_NAME = 3;
    private static final int FAULT_TOO_MANY = 4;

    /** NAMES are held as numbers of this base, the letter a being 1: five bits a letter. */
    private static final int LETTER_BASE = 32;
    private static final int LETTER_BITS = 5;
    private static final int AHEAD_OF_A = 96;

    /** The words that can be no NAME, each with a blank behind it; the constants below are their places here. */
    private static final String WORDS = "person good sells wants knows foes deals veils bell buys nods tells day or and not home veiled fed sold coins friends hunger number ";
    private static final int W_PERSON = 0;
    private static final int W_GOOD = 1;
    private static final int W_SELLS = 2;
    private static final int W_WANTS = 3;
    private static final int W_KNOWS = 4;
    private static final int W_FOES = 5;
    private static final int W_DEALS = 6;
    private static final int W_VEILS = 7;
    private static final int W_BELL = 8;
    private static final int W_BUYS = 9;
    private static final int W_NODS = 10;
    private static final int W_TELLS = 11;
    private static final int W_DAY = 12;
    private static final int W_OR = 13;
    private static final int W_AND = 14;
    private static final int W_NOT = 15;
    private static final int W_HOME = 16;
    private static final int W_VEILED = 17;
    private static final int W_FED = 18;
    private static final int W_SOLD = 19;
    private static final int W_COINS = 20;
    private static final int W_FRIENDS = 21;
    private static final int W_HUNGER = 22;
    private static final int W_NUMBER = 23;
    private static final int WORD_COUNT = 24;

    private final Tape tape;
    private final County land;
    private final CountyReader countyReader;
    private final Market market;
    private final Market trial;
    private final Market[] kept;
    private int keptCount;
    private final Ties ties;
    private final Portrait portrait;
    private final Book ledger;
    private final Sentence claim;
    private final SentenceReader sentenceReader;
    private final Image firstImage;
    private final Image secondImage;

    public StrangerMarket() {
        tape = new Tape();
        land = new County();
        countyReader = new CountyReader(tape);
        market = new Market(land);
        trial = new Market(land);
        kept = new Market[MOST_KEPT];
        for (int k = 0; k < MOST_KEPT; k++) {
            kept[k] = new Market(land);
        }
        keptCount = 0;
        ties = new Ties(land, market);
        portrait = new Portrait();
        ledger = new Book(tape, land);
        claim = new Sentence();
        sentenceReader = new SentenceReader(tape, land);
        firstImage = new Image();
        secondImage = new Image();
        market.begin();
    }

    public int feed(int a, int b, int c, int d, int e) {
        if (!tape.hasRoomForFeed()) {
            return NONE;
        }
        tape.append(a);
        tape.append(b);
        tape.append(c);
        tape.append(d);
        tape.append(e);
        return tape.length;
    }

    public boolean end(int n) {
        if (n < 0 || n > tape.length) {
            return false;
        }
        tape.length = n;
        return true;
    }

    public int county() {
        int lines = countyReader.readText();
        tape.length = 0;
        if (lines == NONE) {
            return -1 - tape.faultPlace;
        }
        land.copyFrom(countyReader.draft);
        market.begin();
        claim.clear();
        // Acts of another COUNTY can't be undone in this one.
        keptCount = 0;
        return lines;
    }

    public int fault() {
        return tape.faultKind;
    }

    public int person(int p, int what) throws NoSuchElementException {
        if (!land.isPerson(p) || what < 0 || what > 7) {
            throw new NoSuchElementException();
        }
        switch (what) {
            case 0:
                return market.coins[p];
            case 1:
                return market.known(p);
            case 2:
                return land.foes[p];
            case 3:
                return market.dealable(p);
            case 4:
                return market.home >>> p & 1;
            case 5:
                return market.veiled >>> p & 1;
            case 6:
                return market.hunger[p];
            default:
                return market.wanting(p);
        }
    }

    public int good(int p, int g, int what) {
        if (!land.isPerson(p) || !land.isGood(g)) {
            return NONE;
        }
        int cell = cellOf(p, g);
        switch (what) {
            case 0:
                return market.stock[cell];
            case 1:
                return market.wants[cell];
            case 2:
                return land.price[cell];
            default:
                return NONE;
        }
    }

    public int deals(int p, int q) {
        if (!areTwo(p, q)) {
            return NONE;
        }
        return market.deals[pairOf(p, q)];
    }

    public int now(int what) {
        switch (what) {
            case 0:
                return market.day;
            case 1:
                return market.home;
            case 2:
                return market.veiled;
            case 3:
                return market.fed();
            case 4:
                return market.veilsLeft;
            case 5:
                return market.bought;
            case 6:
                return market.pairsMet();
            case 7:
                return market.allHunger();
            default:
                return NONE;
        }
    }

    public int buy(int p, int g, int q) {
        if (!land.isPerson(p) || !land.isGood(g) || !land.isPerson(q)) {
            return NONE;
        }
        int why = market.whyNotBuy(p, g, q);
        if (why == 0) {
            keepForUndo();
            market.doBuy(p, g, q);
        }
        return why;
    }

    public int nod(int p, int q) {
        if (!land.isPerson(p) || !land.isPerson(q)) {
            return NONE;
        }
        int why = market.whyNotNod(p, q);
        if (why == 0) {
            keepForUndo();
            market.doNod(p, q);
        }
        return why;
    }

    public int veil(int p) {
        if (!land.isPerson(p)) {
            return NONE;
        }
        int why = market.whyNotVeil(p);
        if (why == 0) {
            keepForUndo();
            market.doVeil(p);
        }
        return why;
    }

    public int tell(int p, int q, int r) {
        if (!land.isPerson(p) || !land.isPerson(q) || !land.isPerson(r)) {
            return NONE;
        }
        int why = market.whyNotTell(p, q, r);
        if (why == 0) {
            keepForUndo();
            market.meet(q, r);
        }
        return why;
    }

    public int days(int n) {
        if (n < 1 || n > DAYS_AT_ONCE) {
            return NONE;
        }
        if (market.day >= ALL_DAYS) {
            return 0;
        }
        keepForUndo();
        return market.passDays(n);
    }

    public int undo() {
        if (keptCount < 1 || keptCount > MOST_KEPT) {
            return NONE;
        }
        keptCount--;
        market.copyFrom(kept[keptCount]);
        return keptCount;
    }

    public int most(int g) {
        return land.isGood(g) ? ties.mostOf(g) : NONE;
    }

    public int who() {
        int masked = ties.maskedBy(tape);
        tape.length = 0;
        return masked;
    }

    public int ask() {
        return ties.asked;
    }

    public int serve(int g) {
        return land.isGood(g) ? ties.fewestSellers(g) : NONE;
    }

    public int serving() {
        return ties.sellers;
    }

    public int chain(int p, int q) {
        return areTwo(p, q) ? ties.goBetweens(p, q) : NONE;
    }

    public int chainAt(int k) {
        if (k < 0 || k >= ties.linkCount || k >= MOST_PERSONS) {
            return NONE;
        }
        return ties.links[k];
    }

    public int out(int p) {
        return land.isPerson(p) ? ties.daysTillOut(p) : NONE;
    }

    public int apart(int p, int q) {
        if (!areTwo(p, q) || has(market.known(p), q)) {
            return NONE;
        }
        return ties.fewestForgotten(p, q);
    }

    public int parting() {
        return ties.forgotten;
    }

    public int recluse() {
        return ties.loneliest();
    }

    public int face(int p) {
        if (!land.isPerson(p)) {
            return NONE;
        }
        portrait.draw(p, land, market);
        return portrait.length;
    }

    public int byteAt(int i) {
        return portrait.signAt(i);
    }

    public int drawn(int n, int seed) {
        if (n < 1 || n > DAYS_AT_ONCE) {
            return NONE;
        }
        if (market.day >= ALL_DAYS) {
            return 0;
        }
        keepForUndo();
        return market.passDrawnDays(n, seed);
    }

    public int odds(int p, int n, int seed) {
        if (!land.isPerson(p) || n < 1 || n > MOST_SEEDS) {
            return NONE;
        }
        int richer = 0;
        for (int k = 0; k < n; k++) {
            trial.copyFrom(market);
            trial.passDrawnDays(ODDS_DAYS, seed + k);
            if (trial.coins[p] > market.coins[p]) {
                richer++;
            }
        }
        return richer;
    }

    public int book(int lives) {
        if (lives != 0 && lives != 1) {
            return NO_SUCH_LIVES;
        }
        boolean isBook = ledger.readText();
        tape.length = 0;
        if (!isBook) {
            return -2 - tape.faultPlace;
        }
        trial.copyFrom(market);
        ledger.judge(trial);
        if (lives == 1 && ledger.rightLines > 0) {
            keepForUndo();
            market.copyFrom(trial);
        }
        return ledger.why == 0 ? NONE : ledger.rightLines;
    }

    public int told(int what) {
        if (!ledger.judged) {
            return NONE;
        }
        switch (what) {
            case 0:
                return ledger.why;
            case 1:
                return ledger.rightLines;
            case 2:
                return ledger.dayThen;
            case 3:
                return ledger.fedThen;
            default:
                return NONE;
        }
    }

    public int sentence() {
        boolean isSentence = sentenceReader.readText();
        tape.length = 0;
        if (!isSentence) {
            return -1 - tape.faultPlace;
        }
        claim.copyFrom(sentenceReader.draft);
        return claim.ones;
    }

    public int said(int k) {
        if (claim.ones == 0 || k < NONE) {
            return NONE;
        }
        int persons = claim.trueOf(land, market);
        return k == NONE ? Integer.bitCount(persons) : bitAt(persons, k);
    }

    public boolean image(int k) {
        if (k != 0 && k != 1) {
            return false;
        }
        Image image = k == 0 ? firstImage : secondImage;
        image.land.copyFrom(land);
        image.market.copyFrom(market);
        image.claim.copyFrom(claim);
        image.isKept = true;
        return true;
    }

    public boolean restore(int k) {
        if (k != 0 && k != 1) {
            return false;
        }
        Image image = k == 0 ? firstImage : secondImage;
        if (!image.isKept) {
            return false;
        }
        land.copyFrom(image.land);
        market.copyFrom(image.market);
        claim.copyFrom(image.claim);
        keptCount = 0;
        return true;
    }

    public int count(int what) {
        switch (what) {
            case 0:
                return land.persons;
            case 1:
                return land.goods;
            case 2:
                return land.deals;
            case 3:
                return land.veils;
            case 4:
                return land.bell;
            case 5:
                return tape.length;
            default:
                return NONE;
        }
    }

    private boolean areTwo(int p, int q) {
        return land.isPerson(p) && land.isPerson(q) && p != q;
    }

    /** The market as it is goes behind the kept ones; the oldest makes room if all places are taken. */
    private void keepForUndo() {
        if (keptCount >= MOST_KEPT) {
            Market oldest = kept[0];
            for (int k = 1; k < MOST_KEPT; k++) {
                kept[k - 1] = kept[k];
            }
            kept[MOST_KEPT - 1] = oldest;
            keptCount = MOST_KEPT - 1;
        }
        kept[keptCount].copyFrom(market);
        keptCount++;
    }

    private static boolean has(int bits, int p) {
        return (bits >>> p & 1) != 0;
    }

    private static int cellOf(int p, int g) {
        return p * MOST_GOODS + g;
    }

    private static int pairOf(int p, int q) {
        return p * MOST_PERSONS + q;
    }

    /** The k-th one (from 0) of the bits that are set, NONE if there are not so many. */
    private static int bitAt(int bits, int k) {
        int ahead = 0;
        for (int p = 0; p < MOST_PERSONS; p++) {
            if (has(bits, p)) {
                if (ahead == k) {
                    return p;
                }
                ahead++;
            }
        }
        return NONE;
    }

    /** The tape, and its reading token by token up to the first FAULT. */
    private static final class Tape {
        private static final int ROOM = 940;
        private static final int FEED_BYTES = 20;
        private static final int WORD_SIGNS = 7;
        private static final int NUMBER_SIGNS = 3;

        private static final int END = 0;
        private static final int WORD = 1;
        private static final int NUMBER = 2;
        private static final int SIGN = 3;
        private static final int NO_TOKEN = 4;

        private final int[] bytes = new int[ROOM];
        /** WORDS as numbers, made once: each token is looked up here. */
        private final long[] reserved = new long[WORD_COUNT];
        private int length;
        private int cut;
        private boolean isTooLong;
        private int at;
        private int kind;
        private int start;
        /** Which of WORDS the token is; NONE for all other tokens. */
        private int word;
        private int sign;
        private int value;
        private long letters;
        private int faultKind;
        private int faultPlace;

        Tape() {
            int place = 0;
            for (int i = 0; i < WORDS.length() && place < WORD_COUNT; i++) {
                char found = WORDS.charAt(i);
                if (found == ' ') {
                    place++;
                } else {
                    reserved[place] = reserved[place] * LETTER_BASE + found - AHEAD_OF_A;
                }
            }
        }

        boolean hasRoomForFeed() {
            return length <= ROOM - FEED_BYTES;
        }

        void append(int number) {
            for (int shift = 24; shift >= 0 && length < ROOM; shift -= 8) {
                bytes[length] = number >>> shift & 255;
                length++;
            }
        }

        /** Goes to the first token of a text of at most so many bytes; no token begins behind these. */
        void open(int mostBytes) {
            cut = Math.min(length, mostBytes);
            isTooLong = length > mostBytes;
            at = 0;
            faultKind = 0;
            faultPlace = 0;
            next();
        }

        void next() {
            while (at < cut && (bytes[at] == 32 || bytes[at] == 10)) {
                at++;
            }
            start = Math.min(at, cut);
            word = NONE;
            sign = NONE;
            if (at >= cut) {
                kind = END;
                return;
            }
            readRun();
            if (at == start) {
                readSign(bytes[at]);
            } else if (kind == WORD) {
                word = placeInWords(letters);
            }
        }

        /** Reads small letters and digits as far as they go, which may be nowhere. */
        private void readRun() {
            int digits = 0;
            letters = 0;
            value = 0;
            // Up to the tape's length, not to the cut: what begins ahead of the cut is read whole.
            while (at < length) {
                int found = bytes[at];
                if (found >= '0' && found <= '9') {
                    value = value * 10 + found - '0';
                    digits++;
                } else if (found >= 'a' && found <= 'z') {
                    letters = letters * LETTER_BASE + found - AHEAD_OF_A;
                } else {
                    break;
                }
                at++;
            }
            int signs = at - start;
            if (digits == 0 && signs <= WORD_SIGNS) {
                kind = WORD;
            } else if (digits == signs && signs <= NUMBER_SIGNS) {
                kind = NUMBER;
            } else {
                kind = NO_TOKEN;
            }
        }

        private void readSign(int found) {
            boolean isSign = found == ';' || found == '<' || found == '=' || found == '>' || found == '(' || found == ')';
            kind = isSign ? SIGN : NO_TOKEN;
            sign = isSign ? found : NONE;
            at++;
        }

        private int placeInWords(long name) {
            for (int place = 0; place < WORD_COUNT; place++) {
                if (reserved[place] == name) {
                    return place;
                }
            }
            return NONE;
        }

        /** A FAULT at the token: always false, so that readers can end with it. */
        boolean refuse(int why) {
            faultKind = why;
            faultPlace = start;
            return false;
        }

        boolean isAtEnd() {
            return kind == END;
        }

        boolean isName() {
            return kind == WORD && word == NONE;
        }

        boolean passSign(int due) {
            if (sign != due) {
                return refuse(FAULT_TOKEN);
            }
            next();
            return true;
        }

        boolean passEnd() {
            return kind == END && !isTooLong || refuse(FAULT_TOKEN);
        }

        /** The number, NONE if there is a FAULT. */
        int passNumber(int least, int most) {
            if (kind != NUMBER) {
                refuse(FAULT_TOKEN);
                return NONE;
            }
            if (value < least || value > most) {
                refuse(FAULT_NUMBER);
                return NONE;
            }
            int number = value;
            next();
            return number;
        }

        /** The PERSON whose NAME the token is, NONE if there is a FAULT; the token is not passed. */
        int personHere(County land) {
            int slot = isName() ? land.slotOf(letters) : NONE;
            if (slot < 0 || slot >= MOST_PERSONS) {
                refuse(isName() ? FAULT_NAME : FAULT_TOKEN);
                return NONE;
            }
            return slot;
        }

        int passPerson(County land) {
            int p = personHere(land);
            if (p != NONE) {
                next();
            }
            return p;
        }

        /** The GOOD whose NAME the token is, NONE if there is a FAULT; the token is not passed. */
        int goodHere(County land) {
            int slot = isName() ? land.slotOf(letters) : NONE;
            if (slot < MOST_PERSONS) {
                refuse(isName() ? FAULT_NAME : FAULT_TOKEN);
                return NONE;
            }
            return slot - MOST_PERSONS;
        }

        int passGood(County land) {
            int g = goodHere(land);
            if (g != NONE) {
                next();
            }
            return g;
        }
    }

    /** What a COUNTY's text tells. */
    private static final class County {
        private static final int SLOTS = 12;
        private static final int DEALS_UNTOLD = 2;
        private static final int VEILS_UNTOLD = 1;

        private int persons;
        private int goods;
        /** Of PERSONS first, then, from MOST_PERSONS on, of GOODS; 0: none yet. */
        private final long[] names = new long[SLOTS];
        private final int[] coins = new int[MOST_PERSONS];
        private final int[] knows = new int[MOST_PERSONS];
        private final int[] foes = new int[MOST_PERSONS];
        private final int[] stock = new int[CELLS];
        private final int[] wants = new int[CELLS];
        private final int[] price = new int[CELLS];
        private int deals;
        private int veils;
        private int bell;

        County() {
            clear();
        }

        void clear() {
            persons = 0;
            goods = 0;
            deals = DEALS_UNTOLD;
            veils = VEILS_UNTOLD;
            bell = 0;
            Arrays.fill(names, 0);
            Arrays.fill(coins, 0);
            Arrays.fill(knows, 0);
            Arrays.fill(foes, 0);
            Arrays.fill(stock, 0);
            Arrays.fill(wants, 0);
            Arrays.fill(price, NONE);
        }

        void copyFrom(County other) {
            persons = other.persons;
            goods = other.goods;
            deals = other.deals;
            veils = other.veils;
            bell = other.bell;
            System.arraycopy(other.names, 0, names, 0, SLOTS);
            System.arraycopy(other.coins, 0, coins, 0, MOST_PERSONS);
            System.arraycopy(other.knows, 0, knows, 0, MOST_PERSONS);
            System.arraycopy(other.foes, 0, foes, 0, MOST_PERSONS);
            System.arraycopy(other.stock, 0, stock, 0, CELLS);
            System.arraycopy(other.wants, 0, wants, 0, CELLS);
            System.arraycopy(other.price, 0, price, 0, CELLS);
        }

        boolean isPerson(int p) {
            return p >= 0 && p < persons;
        }

        boolean isGood(int g) {
            return g >= 0 && g < goods;
        }

        int slotOf(long name) {
            for (int slot = 0; slot < SLOTS; slot++) {
                if (names[slot] == name) {
                    return slot;
                }
            }
            return NONE;
        }

        boolean sellsOrWants(int p, int g) {
            int cell = cellOf(p, g);
            return price[cell] != NONE || wants[cell] > 0;
        }

        int everyone() {
            return (1 << persons) - 1;
        }
    }

    /** Reads a COUNTY from the tape into a draft, so that the COUNTY stays if there is a FAULT. */
    private static final class CountyReader {
        private static final int MOST_BYTES = 900;

        private final Tape tape;
        private final County draft = new County();
        private boolean dealsTold;
        private boolean veilsTold;
        private boolean bellTold;

        CountyReader(Tape tape) {
            this.tape = tape;
        }

        /** How many LINES, NONE if there is a FAULT. */
        int readText() {
            draft.clear();
            dealsTold = false;
            veilsTold = false;
            bellTold = false;
            tape.open(MOST_BYTES);
            int lines = 0;
            while (lines < MOST_BYTES && !tape.isAtEnd()) {
                if (!readLine() || !tape.passSign(';')) {
                    return NONE;
                }
                lines++;
            }
            return tape.passEnd() ? lines : NONE;
        }

        private boolean readLine() {
            switch (tape.word) {
                case W_PERSON:
                    return readPerson();
                case W_GOOD:
                    return readGood();
                case W_SELLS:
                    return readSells();
                case W_WANTS:
                    return readWants();
                case W_KNOWS:
                    return readPair(draft.knows);
                case W_FOES:
                    return readPair(draft.foes);
                case W_DEALS:
                    return readDeals();
                case W_VEILS:
                    return readVeils();
                case W_BELL:
                    return readBell();
                default:
                    return tape.refuse(FAULT_TOKEN);
            }
        }

        private boolean readPerson() {
            if (draft.persons >= MOST_PERSONS) {
                return tape.refuse(FAULT_TOO_MANY);
            }
            tape.next();
            if (!passNewName(draft.persons)) {
                return false;
            }
            int coins = tape.passNumber(0, 99);
            if (coins == NONE) {
                return false;
            }
            draft.coins[draft.persons] = coins;
            draft.persons++;
            return true;
        }

        private boolean readGood() {
            if (draft.goods >= MOST_GOODS) {
                return tape.refuse(FAULT_TOO_MANY);
            }
            tape.next();
            if (!passNewName(MOST_PERSONS + draft.goods)) {
                return false;
            }
            draft.goods++;
            return true;
        }

        private boolean passNewName(int slot) {
            if (!tape.isName()) {
                return tape.refuse(FAULT_TOKEN);
            }
            if (draft.slotOf(tape.letters) != NONE) {
                return tape.refuse(FAULT_NAME);
            }
            draft.names[slot] = tape.letters;
            tape.next();
            return true;
        }

        private boolean readSells() {
            int cell = passNewCell();
            if (cell == NONE) {
                return false;
            }
            int stock = tape.passNumber(1, 9);
            if (stock == NONE) {
                return false;
            }
            draft.stock[cell] = stock;
            draft.price[cell] = tape.passNumber(0, 20);
            return draft.price[cell] != NONE;
        }

        private boolean readWants() {
            int cell = passNewCell();
            if (cell == NONE) {
                return false;
            }
            int wanted = tape.passNumber(1, 9);
            if (wanted == NONE) {
                return false;
            }
            draft.wants[cell] = wanted;
            return true;
        }

        /** The place of a PERSON and a GOOD that he neither sells nor wants yet, NONE if there is a FAULT. */
        private int passNewCell() {
            tape.next();
            int p = tape.passPerson(draft);
            if (p == NONE) {
                return NONE;
            }
            int g = tape.goodHere(draft);
            if (g == NONE) {
                return NONE;
            }
            if (draft.sellsOrWants(p, g)) {
                tape.refuse(FAULT_NAME);
                return NONE;
            }
            tape.next();
            return cellOf(p, g);
        }

        private boolean readPair(int[] rows) {
            tape.next();
            int p = tape.passPerson(draft);
            if (p == NONE) {
                return false;
            }
            int q = tape.personHere(draft);
            if (q == NONE) {
                return false;
            }
            if (p == q || has(rows[p], q)) {
                return tape.refuse(FAULT_NAME);
            }
            rows[p] |= 1 << q;
            rows[q] |= 1 << p;
            tape.next();
            return true;
        }

        private boolean readDeals() {
            if (dealsTold) {
                return tape.refuse(FAULT_NAME);
            }
            dealsTold = true;
            tape.next();
            draft.deals = tape.passNumber(1, 9);
            return draft.deals != NONE;
        }

        private boolean readVeils() {
            if (veilsTold) {
                return tape.refuse(FAULT_NAME);
            }
            veilsTold = true;
            tape.next();
            draft.veils = tape.passNumber(0, 9);
            return draft.veils != NONE;
        }

        private boolean readBell() {
            if (bellTold) {
                return tape.refuse(FAULT_NAME);
            }
            bellTold = true;
            tape.next();
            draft.bell = tape.passNumber(2, 30);
            return draft.bell != NONE;
        }
    }

    /** All that is so in a COUNTY on its DAY, and the acts that change it. */
    private static final class Market {
        private final County land;
        private int day;
        private int home;
        private int veiled;
        private int veilsLeft;
        private int bought;
        private final int[] coins = new int[MOST_PERSONS];
        private final int[] hunger = new int[MOST_PERSONS];
        private final int[] met = new int[MOST_PERSONS];
        private final int[] stock = new int[CELLS];
        private final int[] wants = new int[CELLS];
        private final int[] deals = new int[PAIRS];
        private int draws;

        Market(County land) {
            this.land = land;
        }

        void begin() {
            day = 0;
            bought = 0;
            System.arraycopy(land.coins, 0, coins, 0, MOST_PERSONS);
            Arrays.fill(hunger, 0);
            forget();
            dawn();
        }

        void copyFrom(Market other) {
            day = other.day;
            home = other.home;
            veiled = other.veiled;
            veilsLeft = other.veilsLeft;
            bought = other.bought;
            System.arraycopy(other.coins, 0, coins, 0, MOST_PERSONS);
            System.arraycopy(other.hunger, 0, hunger, 0, MOST_PERSONS);
            System.arraycopy(other.met, 0, met, 0, MOST_PERSONS);
            System.arraycopy(other.stock, 0, stock, 0, CELLS);
            System.arraycopy(other.wants, 0, wants, 0, CELLS);
            System.arraycopy(other.deals, 0, deals, 0, PAIRS);
        }

        private void forget() {
            Arrays.fill(met, 0);
            Arrays.fill(deals, 0);
        }

        private void dawn() {
            System.arraycopy(land.stock, 0, stock, 0, CELLS);
            System.arraycopy(land.wants, 0, wants, 0, CELLS);
            home = 0;
            veiled = 0;
            veilsLeft = land.veils;
        }

        int known(int p) {
            return land.knows[p] | met[p];
        }

        /** With whom he MAY deal, himself left out. */
        int dealable(int p) {
            return (~known(p) | land.foes[p]) & land.everyone() & ~(1 << p);
        }

        int wanting(int p) {
            int sum = 0;
            for (int g = 0; g < MOST_GOODS; g++) {
                sum += wants[cellOf(p, g)];
            }
            return sum;
        }

        boolean isSoldOut(int p) {
            boolean sells = false;
            int left = 0;
            for (int g = 0; g < MOST_GOODS; g++) {
                sells = sells || land.price[cellOf(p, g)] != NONE;
                left += stock[cellOf(p, g)];
            }
            return sells && left == 0;
        }

        int fed() {
            int bits = 0;
            for (int p = 0; p < land.persons; p++) {
                if (wanting(p) == 0) {
                    bits |= 1 << p;
                }
            }
            return bits;
        }

        int pairsMet() {
            int ends = 0;
            for (int p = 0; p < MOST_PERSONS; p++) {
                ends += Integer.bitCount(met[p]);
            }
            return ends / 2;
        }

        int allHunger() {
            int sum = 0;
            for (int p = 0; p < MOST_PERSONS; p++) {
                sum += hunger[p];
            }
            return sum;
        }

        int whyNotBuy(int p, int g, int q) {
            if (p == q) {
                return 1;
            }
            if (has(home, p) || has(home, q)) {
                return 2;
            }
            if (!has(dealable(p), q) && !has(veiled, p) && !has(veiled, q)) {
                return 3;
            }
            if (stock[cellOf(q, g)] < 1) {
                return 4;
            }
            if (land.price[cellOf(q, g)] > coins[p]) {
                return 5;
            }
            return wants[cellOf(p, g)] < 1 ? 6 : 0;
        }

        void doBuy(int p, int g, int q) {
            int cost = land.price[cellOf(q, g)];
            stock[cellOf(q, g)]--;
            wants[cellOf(p, g)]--;
            coins[p] -= cost;
            coins[q] += cost;
            bought++;
            if (has(veiled, p) || has(veiled, q)) {
                return;
            }
            deals[pairOf(p, q)]++;
            deals[pairOf(q, p)]++;
            if (deals[pairOf(p, q)] >= land.deals) {
                meet(p, q);
            }
        }

        void meet(int p, int q) {
            met[p] |= 1 << q;
            met[q] |= 1 << p;
        }

        int whyNotNod(int p, int q) {
            if (p == q) {
                return 1;
            }
            if (has(home, p) || has(home, q)) {
                return 2;
            }
            return has(known(p), q) ? 3 : 0;
        }

        void doNod(int p, int q) {
            meet(p, q);
            home |= 1 << p;
        }

        int whyNotVeil(int p) {
            if (has(veiled, p)) {
                return 1;
            }
            return veilsLeft < 1 ? 2 : 0;
        }

        void doVeil(int p) {
            veiled |= 1 << p;
            veilsLeft--;
        }

        int whyNotTell(int p, int q, int r) {
            if (p == q || p == r || q == r) {
                return 1;
            }
            if (!has(known(p), q) || !has(known(p), r)) {
                return 2;
            }
            return has(known(q), r) ? 3 : 0;
        }

        private void passDay() {
            for (int p = 0; p < land.persons; p++) {
                hunger[p] = Math.min(MOST_HUNGER, hunger[p] + wanting(p));
            }
            dawn();
            day++;
            if (land.bell > 0 && day % land.bell == 0) {
                forget();
            }
        }

        /** How many DAYS of n went by: the last of all is the end. */
        int passDays(int n) {
            int gone = 0;
            while (gone < n && day < ALL_DAYS) {
                passDay();
                gone++;
            }
            return gone;
        }

        int passDrawnDays(int n, int seed) {
            draws = seed;
            int gone = 0;
            while (gone < n && day < ALL_DAYS) {
                for (int p = 0; p < land.persons; p++) {
                    drawAct(p);
                }
                passDay();
                gone++;
            }
            return gone;
        }

        private void drawAct(int p) {
            int what = draw(6);
            if (what <= 2) {
                drawBuy(p);
            } else if (what == 3) {
                int q = draw(land.persons);
                if (whyNotNod(p, q) == 0) {
                    doNod(p, q);
                }
            } else if (what == 4 && whyNotVeil(p) == 0) {
                doVeil(p);
            }
        }

        private void drawBuy(int p) {
            if (land.goods < 1) {
                return;
            }
            int g = draw(land.goods);
            int q = draw(land.persons);
            if (whyNotBuy(p, g, q) == 0) {
                doBuy(p, g, q);
            }
        }

        private int draw(int n) {
            draws = draws * 1103515245 + 12345;
            return n > 0 ? (draws >>> 8) % n : 0;
        }
    }

    /** Questions about who MAY deal with whom and who KNOWS whom, and what the latest of them found. */
    private static final class Ties {
        private final County land;
        private final Market market;
        private int asked = NONE;
        private int sellers = NONE;
        private int linkCount;
        private final int[] links = new int[MOST_PERSONS];
        private int forgotten = NONE;
        /** Who is reached from one PERSON within so many steps. */
        private final int[] within = new int[MOST_PERSONS + 1];

        Ties(County land, Market market) {
            this.land = land;
            this.market = market;
        }

        /** The least cut between stocks and wants, over all choices of those who still give out their stock. */
        int mostOf(int g) {
            int least = AS_OFTEN_AS_ONE_LIKES;
            int everyone = land.everyone();
            for (int giving = 0; giving <= everyone; giving++) {
                int cut = 0;
                for (int p = 0; p < land.persons; p++) {
                    int cell = cellOf(p, g);
                    if (!has(giving, p)) {
                        cut += market.stock[cell];
                    }
                    if (market.wants[cell] > 0) {
                        cut += Math.min(market.wants[cell], canReach(p, giving));
                    }
                }
                least = Math.min(least, cut);
            }
            return least;
        }

        /** How often one can deal with some others today. */
        private int canReach(int p, int giving) {
            int sum = 0;
            int may = market.dealable(p);
            for (int q = 0; q < land.persons; q++) {
                if (has(giving, q) && has(land.foes[p], q)) {
                    sum += AS_OFTEN_AS_ONE_LIKES;
                } else if (has(giving, q) && has(may, q)) {
                    sum += Math.max(0, land.deals - market.deals[pairOf(p, q)]);
                }
            }
            return sum;
        }

        int maskedBy(Tape tape) {
            int hints = tape.length / 2;
            if (tape.length % 2 != 0 || hints < 1 || hints > MOST_HINTS) {
                return NONE;
            }
            int masked = land.everyone();
            for (int k = 0; k < hints; k++) {
                int p = tape.bytes[2 * k];
                int may = tape.bytes[2 * k + 1];
                if (!land.isPerson(p) || may > 1) {
                    return NONE;
                }
                masked &= may == 1 ? market.dealable(p) : ~market.dealable(p);
                masked &= ~(1 << p);
            }
            if (masked > 0) {
                asked = bestToAsk(masked);
            }
            return masked;
        }

        private int bestToAsk(int masked) {
            int best = NONE;
            int least = MOST_PERSONS + 1;
            for (int p = 0; p < land.persons; p++) {
                int may = market.dealable(p);
                int left = Math.max(Integer.bitCount(masked & may), Integer.bitCount(masked & ~may));
                if (left < least) {
                    least = left;
                    best = p;
                }
            }
            return best;
        }

        int fewestSellers(int g) {
            int best = NONE;
            int sell = sellersOf(g);
            int everyone = land.everyone();
            for (int some = 0; some <= everyone; some++) {
                boolean isFewer = best == NONE || Integer.bitCount(some) < Integer.bitCount(best);
                if ((some & ~sell) == 0 && isFewer && areAllServed(g, some)) {
                    best = some;
                }
            }
            if (best == NONE) {
                return NONE;
            }
            sellers = best;
            return Integer.bitCount(best);
        }

        private int sellersOf(int g) {
            int bits = 0;
            for (int p = 0; p < land.persons; p++) {
                if (land.price[cellOf(p, g)] != NONE) {
                    bits |= 1 << p;
                }
            }
            return bits;
        }

        private boolean areAllServed(int g, int some) {
            for (int p = 0; p < land.persons; p++) {
                if (land.wants[cellOf(p, g)] > 0 && (market.dealable(p) & some) == 0) {
                    return false;
                }
            }
            return true;
        }

        int goBetweens(int p, int q) {
            within[0] = 1 << q;
            int steps = 0;
            while (steps < MOST_PERSONS && !has(within[steps], p)) {
                within[steps + 1] = withDealers(within[steps]);
                steps++;
            }
            if (!has(within[steps], p)) {
                return NONE;
            }
            linkCount = steps - 1;
            int last = p;
            for (int k = 0; k < linkCount && k < MOST_PERSONS; k++) {
                last = leastDealer(last, within[steps - 1 - k]);
                links[k] = last;
            }
            return linkCount;
        }

        /** The least of some with whom p MAY deal: with those one step nearer, the row is the first of the shortest. */
        private int leastDealer(int p, int some) {
            int least = bitAt(market.dealable(p) & some, 0);
            return least == NONE ? p : least;
        }

        private int withDealers(int some) {
            int more = some;
            for (int p = 0; p < land.persons; p++) {
                if (has(some, p)) {
                    more |= market.dealable(p);
                }
            }
            return more;
        }

        private int withKnown(int some) {
            int more = some;
            for (int p = 0; p < land.persons; p++) {
                if (has(some, p)) {
                    more |= market.known(p);
                }
            }
            return more;
        }

        int daysTillOut(int p) {
            int knowing = 1 << p;
            for (int gone = 0; gone < MOST_PERSONS; gone++) {
                if (knowing == land.everyone()) {
                    return gone;
                }
                knowing = withKnown(knowing);
            }
            return NONE;
        }

        /** Of two who do not KNOW one another: without all others they are apart, so something is found. */
        int fewestForgotten(int p, int q) {
            int others = land.everyone() & ~(1 << p) & ~(1 << q);
            int best = others;
            for (int some = 0; some < others; some++) {
                boolean isFewer = Integer.bitCount(some) < Integer.bitCount(best);
                if ((some & ~others) == 0 && isFewer && !isLinked(p, q, some)) {
                    best = some;
                }
            }
            forgotten = best;
            return Integer.bitCount(best);
        }

        private boolean isLinked(int p, int q, int without) {
            int reached = 1 << p;
            for (int step = 1; step < land.persons; step++) {
                reached = withKnown(reached) & ~without;
            }
            return has(reached, q);
        }

        int loneliest() {
            int best = NONE;
            int least = MOST_PERSONS;
            for (int p = 0; p < land.persons; p++) {
                int friends = Integer.bitCount(market.known(p));
                if (friends < least) {
                    least = friends;
                    best = p;
                }
            }
            return best;
        }
    }

    /** The latest FACE. */
    private static final class Portrait {
        private static final int ROOM = 80;

        private final int[] signs = new int[ROOM];
        private int length;

        int signAt(int i) {
            return i >= 0 && i < length && i < ROOM ? signs[i] : NONE;
        }

        void draw(int p, County land, Market market) {
            length = 0;
            addName(land.names[p]);
            addText(" knows");
            int known = market.known(p);
            for (int q = 0; q < land.persons; q++) {
                if (has(known, q)) {
                    add(' ');
                    addName(land.names[q]);
                }
            }
            if (known == 0) {
                addText(" nobody");
            }
            if (has(market.veiled, p)) {
                addText(" veiled");
            }
            if (has(market.home, p)) {
                addText(" home");
            }
        }

        private void add(int sign) {
            if (length < ROOM) {
                signs[length] = sign;
                length++;
            }
        }

        private void addText(String text) {
            for (int i = 0; i < text.length(); i++) {
                add(text.charAt(i));
            }
        }

        private void addName(long name) {
            // The first letter stands highest: a short NAME has no letters in the places ahead of it.
            for (int shift = 6 * LETTER_BITS; shift >= 0; shift -= LETTER_BITS) {
                int letter = (int) (name >>> shift) & LETTER_BASE - 1;
                if (letter > 0) {
                    add(letter + AHEAD_OF_A);
                }
            }
        }
    }

    /** A BOOK: read from the tape as a whole, then judged on a market of its own. */
    private static final class Book {
        private static final int MOST_BYTES = 400;
        private static final int MOST_LINES = 40;
        private static final int WHY_FEW_DAYS = 41;

        private final Tape tape;
        private final County land;
        /** The LINE's word; who acts, or how many DAYS; then what is told behind the word. */
        private final int[] word = new int[MOST_LINES];
        private final int[] first = new int[MOST_LINES];
        private final int[] second = new int[MOST_LINES];
        private final int[] third = new int[MOST_LINES];
        private int lines;
        private boolean judged;
        private int why;
        private int rightLines;
        private int dayThen;
        private int fedThen;

        Book(Tape tape, County land) {
            this.tape = tape;
            this.land = land;
        }

        boolean readText() {
            lines = 0;
            tape.open(MOST_BYTES);
            // One LINE more than there may be, so that its FAULT is found.
            for (int k = 0; k <= MOST_LINES && !tape.isAtEnd(); k++) {
                if (!readLine() || !tape.passSign(';')) {
                    return false;
                }
                lines++;
            }
            return tape.passEnd();
        }

        private boolean readLine() {
            boolean isDay = tape.word == W_DAY;
            int p = isDay ? NONE : tape.personHere(land);
            if (!isDay && p == NONE) {
                return false;
            }
            if (lines >= MOST_LINES) {
                return tape.refuse(FAULT_TOO_MANY);
            }
            tape.next();
            if (isDay) {
                word[lines] = W_DAY;
                first[lines] = tape.passNumber(1, DAYS_AT_ONCE);
                return first[lines] != NONE;
            }
            first[lines] = p;
            return readAct();
        }

        private boolean readAct() {
            int act = tape.word;
            if (act != W_BUYS && act != W_NODS && act != W_VEILS && act != W_TELLS) {
                return tape.refuse(FAULT_TOKEN);
            }
            word[lines] = act;
            tape.next();
            if (act == W_VEILS) {
                return true;
            }
            second[lines] = act == W_BUYS ? tape.passGood(land) : tape.passPerson(land);
            if (second[lines] == NONE) {
                return false;
            }
            if (act == W_NODS) {
                return true;
            }
            third[lines] = tape.passPerson(land);
            return third[lines] != NONE;
        }

        /** Lives the LINES in a market up to the first that is WRONG. */
        void judge(Market trial) {
            judged = true;
            why = 0;
            rightLines = 0;
            while (why == 0 && rightLines < lines) {
                why = liveLine(trial, rightLines);
                if (why == 0) {
                    rightLines++;
                }
            }
            dayThen = trial.day;
            fedThen = trial.fed();
        }

        /** 0, or why the LINE is WRONG: then nothing is changed. */
        private int liveLine(Market trial, int line) {
            switch (word[line]) {
                case W_BUYS:
                    return liveBuy(trial, first[line], second[line], third[line]);
                case W_NODS:
                    return liveNod(trial, first[line], second[line]);
                case W_VEILS:
                    return liveVeil(trial, first[line]);
                case W_TELLS:
                    return liveTell(trial, first[line], second[line], third[line]);
                default:
                    return liveDays(trial, first[line]);
            }
        }

        private static int liveBuy(Market trial, int p, int g, int q) {
            int wrong = trial.whyNotBuy(p, g, q);
            if (wrong == 0) {
                trial.doBuy(p, g, q);
            }
            return wrong;
        }

        private static int liveNod(Market trial, int p, int q) {
            int wrong = trial.whyNotNod(p, q);
            if (wrong == 0) {
                trial.doNod(p, q);
                return 0;
            }
            return 10 + wrong;
        }

        private static int liveVeil(Market trial, int p) {
            int wrong = trial.whyNotVeil(p);
            if (wrong == 0) {
                trial.doVeil(p);
                return 0;
            }
            return 20 + wrong;
        }

        private static int liveTell(Market trial, int p, int q, int r) {
            int wrong = trial.whyNotTell(p, q, r);
            if (wrong == 0) {
                trial.meet(q, r);
                return 0;
            }
            return 30 + wrong;
        }

        private static int liveDays(Market trial, int n) {
            if (n > ALL_DAYS - trial.day) {
                return WHY_FEW_DAYS;
            }
            trial.passDays(n);
            return 0;
        }
    }

    /** A SENTENCE as steps on a stack of sets of PERSONS: each 'and', 'or', 'not' stands behind what it joins. */
    private static final class Sentence {
        private static final int MOST_ONES = 20;
        private static final int ROOM = 40;

        private int ones;
        private int steps;
        private final int[] word = new int[ROOM];
        private final int[] sign = new int[ROOM];
        private final int[] value = new int[ROOM];
        private final int[] stack = new int[MOST_ONES];

        void clear() {
            ones = 0;
            steps = 0;
        }

        void copyFrom(Sentence other) {
            ones = other.ones;
            steps = other.steps;
            System.arraycopy(other.word, 0, word, 0, ROOM);
            System.arraycopy(other.sign, 0, sign, 0, ROOM);
            System.arraycopy(other.value, 0, value, 0, ROOM);
        }

        void addStep(int newWord, int newSign, int newValue) {
            if (steps < ROOM) {
                word[steps] = newWord;
                sign[steps] = newSign;
                value[steps] = newValue;
                steps++;
            }
        }

        /** The PERSONS of whom it may be said, as bits. */
        int trueOf(County land, Market market) {
            int height = 0;
            for (int k = 0; k < steps && k < ROOM; k++) {
                if (word[k] == W_NOT && height > 0) {
                    stack[height - 1] = ~stack[height - 1] & land.everyone();
                } else if (word[k] == W_AND && height > 1) {
                    height--;
                    stack[height - 1] &= stack[height];
                } else if (word[k] == W_OR && height > 1) {
                    height--;
                    stack[height - 1] |= stack[height];
                } else if (height < MOST_ONES) {
                    stack[height] = trueOfStep(k, land, market);
                    height++;
                }
            }
            return height > 0 ? stack[0] : 0;
        }

        private int trueOfStep(int k, County land, Market market) {
            int bits = 0;
            for (int p = 0; p < land.persons; p++) {
                if (isTrue(k, p, market)) {
                    bits |= 1 << p;
                }
            }
            return bits;
        }

        private boolean isTrue(int k, int p, Market market) {
            switch (word[k]) {
                case W_HOME:
                    return has(market.home, p);
                case W_VEILED:
                    return has(market.veiled, p);
                case W_FED:
                    return market.wanting(p) == 0;
                case W_SOLD:
                    return market.isSoldOut(p);
                case W_KNOWS:
                    return has(market.known(p), value[k]);
                case W_WANTS:
                    return market.wants[cellOf(p, value[k])] > 0;
                case W_COINS:
                    return compares(market.coins[p], k);
                case W_FRIENDS:
                    return compares(Integer.bitCount(market.known(p)), k);
                case W_HUNGER:
                    return compares(market.hunger[p], k);
                default:
                    return compares(p, k);
            }
        }

        private boolean compares(int found, int k) {
            if (sign[k] == '<') {
                return found < value[k];
            }
            return sign[k] == '=' ? found == value[k] : found > value[k];
        }
    }

    /** Reads a SENTENCE from the tape into a draft, so that the SENTENCE stays if there is a FAULT. */
    private static final class SentenceReader {
        private static final int MOST_BYTES = 200;
        private static final int MOST_WITHIN = 8;
        private static final int MOST_NUMBER = 999;

        private final Tape tape;
        private final County land;
        private final Sentence draft = new Sentence();

        SentenceReader(Tape tape, County land) {
            this.tape = tape;
            this.land = land;
        }

        boolean readText() {
            draft.clear();
            tape.open(MOST_BYTES);
            return readCond(1) && tape.passEnd();
        }

        /** An 'and' joins at once, an 'or' waits until the ALL behind it is whole. */
        private boolean readCond(int depth) {
            boolean andJoins = false;
            boolean orWaits = false;
            for (int k = 0; k <= Sentence.MOST_ONES; k++) {
                if (!readOne(depth)) {
                    return false;
                }
                if (andJoins) {
                    draft.addStep(W_AND, NONE, NONE);
                }
                andJoins = tape.word == W_AND;
                if (!andJoins && orWaits) {
                    draft.addStep(W_OR, NONE, NONE);
                }
                if (!andJoins && tape.word != W_OR) {
                    return true;
                }
                orWaits = orWaits || !andJoins;
                tape.next();
            }
            return false;
        }

        private boolean readOne(int depth) {
            boolean isBracket = tape.sign == '(';
            int word = tape.word;
            if (!isBracket && !beginsOne(word)) {
                return tape.refuse(FAULT_TOKEN);
            }
            if (draft.ones >= Sentence.MOST_ONES || depth > MOST_WITHIN) {
                return tape.refuse(FAULT_TOO_MANY);
            }
            draft.ones++;
            tape.next();
            if (isBracket) {
                return readCond(depth + 1) && tape.passSign(')');
            }
            if (word != W_NOT) {
                return readPlain(word);
            }
            if (!readOne(depth + 1)) {
                return false;
            }
            draft.addStep(W_NOT, NONE, NONE);
            return true;
        }

        private static boolean beginsOne(int word) {
            return word == W_KNOWS || word == W_WANTS || word >= W_NOT && word <= W_NUMBER;
        }

        /** What stands behind the word of a ONE that has no other ONE within. */
        private boolean readPlain(int word) {
            if (word >= W_HOME && word <= W_SOLD) {
                draft.addStep(word, NONE, NONE);
                return true;
            }
            if (word == W_KNOWS || word == W_WANTS) {
                int named = word == W_KNOWS ? tape.passPerson(land) : tape.passGood(land);
                if (named == NONE) {
                    return false;
                }
                draft.addStep(word, NONE, named);
                return true;
            }
            int sign = tape.sign;
            if (sign != '<' && sign != '=' && sign != '>') {
                return tape.refuse(FAULT_TOKEN);
            }
            tape.next();
            int number = tape.passNumber(0, MOST_NUMBER);
            if (number == NONE) {
                return false;
            }
            draft.addStep(word, sign, number);
            return true;
        }
    }

    /** One of the two places where all is kept. */
    private static final class Image {
        private boolean isKept;
        private final County land = new County();
        private final Market market = new Market(land);
        private final Sentence claim = new Sentence();
    }
}
