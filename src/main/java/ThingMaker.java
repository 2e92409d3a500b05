import java.util.Arrays;

/**
 * Things made of things: a book of recipes, substitutes and vessels, a store,
 * and the plan by which a wish comes true.
 */
public final class ThingMaker {
    public static final int BAD = -1, STATE = -2, FULL = -3, NONE = -9;

    private static final int THINGS = 20;
    private static final int MOST_INGREDIENTS = 5;
    private static final int MOST_SUBSTITUTES = 3;
    private static final int GREATEST_NUMBER = 20;
    private static final int GREATEST_RANK = 8;
    private static final int MOST_IN_STORE = 99999;
    private static final int MOST_BROUGHT = 9999;
    private static final int MOST_WISHED = 999;
    private static final int MOST_BATCHES_TOLD = 99;
    private static final int MOST_BATCHES = 500;
    private static final int MOST_RECORDED = 8;
    private static final int IMAGES = 2;
    private static final int MOST_BYTES = 60;
    private static final int LEAST_CODE = 32;
    private static final int GREATEST_CODE = 126;

    private static final int NO_FAULT = 0;
    private static final int WRONG_BYTE = 1;
    private static final int WRONG_NUMBER = 2;
    private static final int WRONG_INGREDIENT = 3;
    private static final int EARLY_END = 4;

    private final Book book = new Book();
    private final Book draft = new Book();
    private final Stock stock = new Stock();
    private final Works works = new Works();
    private final History history = new History();
    private final State[] images = new State[IMAGES];
    private final RecipeReader reader = new RecipeReader();
    private final int[] text = new int[MOST_BYTES];
    private int length;
    private int faultKind;
    private int faultPlace;

    public ThingMaker() {
        length = 0;
        faultKind = NO_FAULT;
        faultPlace = 0;
    }

    // ---- the book

    public int recipe() {
        reader.read(text, length);
        if (reader.faultKind != NO_FAULT) {
            faultKind = reader.faultKind;
            faultPlace = reader.faultPlace;
            return STATE;
        }
        draft.copyFrom(book);
        draft.lay(reader);
        if (!draft.findRanks()) {
            return STATE;
        }
        history.remember(book, stock);
        book.copyFrom(draft);
        return book.rankOf(reader.made);
    }

    public int forget(int thing) {
        if (!isThing(thing)) {
            return BAD;
        }
        if (!book.isMade(thing)) {
            return STATE;
        }
        history.remember(book, stock);
        int yielded = book.yieldOf(thing);
        book.strike(thing);
        book.findRanks();
        return yielded;
    }

    public int allow(int thing, int substitute) {
        if (!isThing(thing) || !isThing(substitute) || thing == substitute) {
            return BAD;
        }
        if (book.hasSubstitute(thing, substitute)) {
            return STATE;
        }
        if (book.substitutesOf(thing) >= MOST_SUBSTITUTES) {
            return FULL;
        }
        draft.copyFrom(book);
        draft.addSubstitute(thing, substitute);
        if (!draft.findRanks()) {
            return STATE;
        }
        history.remember(book, stock);
        book.copyFrom(draft);
        return book.substitutesOf(thing);
    }

    public int forbid(int thing, int k) {
        if (!isThing(thing) || k < 0 || k >= book.substitutesOf(thing)) {
            return BAD;
        }
        history.remember(book, stock);
        int removed = book.substituteAt(thing, k);
        book.removeSubstitute(thing, k);
        book.findRanks();
        return removed;
    }

    public int vessel(int thing, int vessel) {
        boolean taken = vessel == NONE;
        if (!isThing(thing) || (!taken && !isThing(vessel)) || thing == vessel) {
            return BAD;
        }
        if (!taken && (book.vesselOf(vessel) != NONE || book.isVessel(thing))) {
            return STATE;
        }
        history.remember(book, stock);
        int before = book.vesselOf(thing);
        book.setVessel(thing, vessel);
        return before;
    }

    // ---- the store

    public int bring(int thing, int amount) {
        if (!isThing(thing) || amount < -MOST_BROUGHT || amount > MOST_BROUGHT) {
            return BAD;
        }
        int before = at(stock.amounts, thing);
        int after = Math.max(before + amount, 0);
        if (after > MOST_IN_STORE) {
            return FULL;
        }
        history.remember(book, stock);
        add(stock.amounts, thing, after - before);
        add(stock.brought, thing, after - before);
        return after;
    }

    public int wish(int thing, int n) {
        if (!isThing(thing) || !isWished(n)) {
            return BAD;
        }
        works.begin(stock, true);
        if (!works.fulfil(book, thing, n)) {
            return FULL;
        }
        return acceptWorks();
    }

    public int make(int thing, int batches) {
        if (!isThing(thing) || batches < 1 || batches > MOST_BATCHES_TOLD) {
            return BAD;
        }
        if (!book.isMade(thing)) {
            return STATE;
        }
        works.begin(stock, true);
        if (!works.runAll(book, thing, batches)) {
            return FULL;
        }
        return acceptWorks();
    }

    public int undo() {
        if (history.size() < 1) {
            return STATE;
        }
        history.restore(book, stock);
        return history.size();
    }

    // ---- the text

    public int write(int code) {
        if (code < LEAST_CODE || code > GREATEST_CODE) {
            return BAD;
        }
        if (length >= MOST_BYTES) {
            return FULL;
        }
        put(text, length, code);
        length++;
        return length;
    }

    public int wipe() {
        int before = length;
        length = 0;
        return before;
    }

    public int fault(int what) {
        if (what < 0 || what > 1) {
            return BAD;
        }
        if (faultKind == NO_FAULT) {
            return NONE;
        }
        return what == 0 ? faultKind : faultPlace;
    }

    // ---- what is told

    public int told(int what) {
        switch (what) {
            case 0: return book.recipes();
            case 1: return sum(stock.amounts);
            case 2: return sum(stock.gathered);
            case 3: return stock.batches;
            case 4: return book.greatestRank();
            case 5: return book.madeThings();
            case 6: return length;
            case 7: return history.size();
            default: return BAD;
        }
    }

    public int thing(int thing, int what) {
        if (!isThing(thing)) {
            return BAD;
        }
        switch (what) {
            case 0: return at(stock.amounts, thing);
            case 1: return book.rankOf(thing);
            case 2: return book.isMade(thing) ? book.yieldOf(thing) : NONE;
            case 3: return book.isMade(thing) ? book.ingredientsOf(thing) : NONE;
            case 4: return book.vesselOf(thing);
            case 5: return book.substitutesOf(thing);
            case 6: return at(stock.gathered, thing);
            case 7: return at(stock.made, thing);
            case 8: return at(stock.used, thing);
            case 9: return at(stock.returned, thing);
            case 10: return at(stock.brought, thing);
            default: return BAD;
        }
    }

    public int ingredient(int thing, int k, int what) {
        if (!isThing(thing) || k < 0 || what < 0 || what > 1) {
            return BAD;
        }
        if (k >= book.ingredientsOf(thing)) {
            return NONE;
        }
        return what == 0 ? book.ingredientAt(thing, k) : book.amountAt(thing, k);
    }

    public int substitute(int thing, int k) {
        if (!isThing(thing) || k < 0) {
            return BAD;
        }
        return k < book.substitutesOf(thing) ? book.substituteAt(thing, k) : NONE;
    }

    public int isNeeded(int thing, int other) {
        if (!isThing(thing) || !isThing(other)) {
            return BAD;
        }
        return hasBit(book.allNeedsOf(other), thing) ? 1 : 0;
    }

    public float share() {
        int gathered = sum(stock.gathered);
        int all = gathered + sum(stock.made);
        if (all <= 0) {
            return 0.0f;
        }
        return (float) gathered / (float) all;
    }

    // ---- what would be

    public int gather(int thing, int n, int of) {
        if (!isThing(thing) || !isWished(n) || (of != NONE && !isThing(of))) {
            return BAD;
        }
        works.begin(stock, true);
        if (!works.fulfil(book, thing, n)) {
            return FULL;
        }
        if (of == NONE) {
            return works.gathered();
        }
        return at(works.bench.gathered, of) - at(stock.gathered, of);
    }

    public int canHave(int thing) {
        if (!isThing(thing)) {
            return BAD;
        }
        int there = Math.min(at(stock.amounts, thing), MOST_WISHED);
        int yielded = book.yieldOf(thing);
        if (yielded < 1) {
            return there;
        }
        // All wishes that need as many batches go the same way, so one of them tells for all.
        int most = Math.min(divideUp(MOST_WISHED - there, yielded), MOST_BATCHES);
        for (int batches = most; batches > 0; batches--) {
            works.begin(stock, false);
            if (works.runAll(book, thing, batches)) {
                return Math.min(there + yielded * batches, MOST_WISHED);
            }
        }
        return there;
    }

    public int bestGift(int thing, int n) {
        if (!isThing(thing) || !isWished(n)) {
            return BAD;
        }
        works.begin(stock, true);
        if (!works.fulfil(book, thing, n)) {
            return FULL;
        }
        int least = works.gathered();
        int best = NONE;
        for (int gift = 0; gift < THINGS; gift++) {
            works.begin(stock, true);
            if (works.receive(gift) && works.fulfil(book, thing, n) && works.gathered() < least) {
                least = works.gathered();
                best = gift;
            }
        }
        return best;
    }

    // ---- images

    public int keep(int i) {
        if (i < 0 || i >= images.length) {
            return BAD;
        }
        roomAt(images, i).hold(book, stock);
        return book.recipes();
    }

    public int back(int i) {
        if (i < 0 || i >= images.length) {
            return BAD;
        }
        State image = stateAt(images, i);
        if (image == null) {
            return STATE;
        }
        history.remember(book, stock);
        image.layOut(book, stock);
        return book.recipes();
    }

    // ---- helpers

    /** Makes what the works have done the present store, as a change. */
    private int acceptWorks() {
        history.remember(book, stock);
        stock.copyFrom(works.bench);
        return works.gathered();
    }

    private static boolean isThing(int thing) {
        return thing >= 0 && thing < THINGS;
    }

    private static boolean isWished(int n) {
        return n >= 1 && n <= MOST_WISHED;
    }

    private static boolean hasBit(int set, int k) {
        return (set >> k & 1) != 0;
    }

    private static int divideUp(int n, int divisor) {
        return divisor < 1 ? 0 : (n + divisor - 1) / divisor;
    }

    private static int at(int[] row, int i) {
        return i >= 0 && i < row.length ? row[i] : 0;
    }

    private static void put(int[] row, int i, int value) {
        if (i >= 0 && i < row.length) {
            row[i] = value;
        }
    }

    private static void add(int[] row, int i, int value) {
        if (i >= 0 && i < row.length) {
            row[i] += value;
        }
    }

    private static int sum(int[] row) {
        int all = 0;
        for (int i = 0; i < row.length; i++) {
            all += row[i];
        }
        return all;
    }

    /** The state at a place, null if nothing was ever held there. */
    private static State stateAt(State[] states, int i) {
        return i >= 0 && i < states.length ? states[i] : null;
    }

    /** The state at a place, a new one if nothing was ever held there. */
    private static State roomAt(State[] states, int i) {
        State state = stateAt(states, i);
        if (state != null) {
            return state;
        }
        State room = new State();
        if (i >= 0 && i < states.length) {
            states[i] = room;
        }
        return room;
    }

    private static void copy(int[] from, int[] to) {
        System.arraycopy(from, 0, to, 0, Math.min(from.length, to.length));
    }

    /** What is known of the things: recipes, substitutes, vessels, and the ranks that follow. */
    private static final class Book {
        /** 0 for a thing that is gathered. */
        private final int[] yields = new int[THINGS];
        private final int[] ingredientCounts = new int[THINGS];
        private final int[] ingredients = new int[THINGS * MOST_INGREDIENTS];
        private final int[] amounts = new int[THINGS * MOST_INGREDIENTS];
        private final int[] substituteCounts = new int[THINGS];
        private final int[] substitutes = new int[THINGS * MOST_SUBSTITUTES];
        private final int[] vessels = new int[THINGS];
        private final int[] ranks = new int[THINGS];

        Book() {
            Arrays.fill(vessels, NONE);
        }

        void copyFrom(Book other) {
            copy(other.yields, yields);
            copy(other.ingredientCounts, ingredientCounts);
            copy(other.ingredients, ingredients);
            copy(other.amounts, amounts);
            copy(other.substituteCounts, substituteCounts);
            copy(other.substitutes, substitutes);
            copy(other.vessels, vessels);
            copy(other.ranks, ranks);
        }

        boolean isMade(int thing) {
            return at(yields, thing) > 0;
        }

        int yieldOf(int thing) {
            return at(yields, thing);
        }

        int ingredientsOf(int thing) {
            return at(ingredientCounts, thing);
        }

        int ingredientAt(int thing, int k) {
            return at(ingredients, thing * MOST_INGREDIENTS + k);
        }

        int amountAt(int thing, int k) {
            return at(amounts, thing * MOST_INGREDIENTS + k);
        }

        int substitutesOf(int thing) {
            return at(substituteCounts, thing);
        }

        int substituteAt(int thing, int k) {
            return at(substitutes, thing * MOST_SUBSTITUTES + k);
        }

        int vesselOf(int thing) {
            return at(vessels, thing);
        }

        int rankOf(int thing) {
            return at(ranks, thing);
        }

        int recipes() {
            return Integer.bitCount(madeThings());
        }

        int madeThings() {
            int set = 0;
            for (int thing = 0; thing < THINGS; thing++) {
                if (isMade(thing)) {
                    set |= 1 << thing;
                }
            }
            return set;
        }

        int greatestRank() {
            int greatest = 0;
            for (int thing = 0; thing < THINGS; thing++) {
                greatest = Math.max(greatest, rankOf(thing));
            }
            return greatest;
        }

        void lay(RecipeReader reader) {
            put(yields, reader.made, reader.yielded);
            put(ingredientCounts, reader.made, reader.count);
            int first = reader.made * MOST_INGREDIENTS;
            for (int k = 0; k < MOST_INGREDIENTS; k++) {
                put(ingredients, first + k, at(reader.ingredients, k));
                put(amounts, first + k, at(reader.amounts, k));
            }
        }

        void strike(int thing) {
            put(yields, thing, 0);
            put(ingredientCounts, thing, 0);
        }

        boolean hasSubstitute(int thing, int substitute) {
            int count = substitutesOf(thing);
            for (int k = 0; k < count; k++) {
                if (substituteAt(thing, k) == substitute) {
                    return true;
                }
            }
            return false;
        }

        void addSubstitute(int thing, int substitute) {
            int count = substitutesOf(thing);
            put(substitutes, thing * MOST_SUBSTITUTES + count, substitute);
            put(substituteCounts, thing, count + 1);
        }

        void removeSubstitute(int thing, int place) {
            int last = substitutesOf(thing) - 1;
            for (int k = place; k < last; k++) {
                put(substitutes, thing * MOST_SUBSTITUTES + k, substituteAt(thing, k + 1));
            }
            put(substituteCounts, thing, last);
        }

        void setVessel(int thing, int vessel) {
            put(vessels, thing, vessel);
        }

        boolean isVessel(int thing) {
            for (int other = 0; other < THINGS; other++) {
                if (vesselOf(other) == thing) {
                    return true;
                }
            }
            return false;
        }

        /** Finds the ranks anew; false if they can't be as the document wants them. */
        boolean findRanks() {
            Arrays.fill(ranks, 0);
            // In a ring of needs a rank grows in each round, so the ring shows as a rank too great.
            for (int round = 0; round <= GREATEST_RANK + 1; round++) {
                boolean grown = false;
                for (int thing = 0; thing < THINGS; thing++) {
                    int rank = isMade(thing) ? 1 + greatestRankIn(needsOf(thing)) : 0;
                    if (rank > GREATEST_RANK) {
                        return false;
                    }
                    if (rank != rankOf(thing)) {
                        put(ranks, thing, rank);
                        grown = true;
                    }
                }
                if (!grown) {
                    return true;
                }
            }
            return false;
        }

        private int greatestRankIn(int set) {
            int greatest = 0;
            for (int thing = 0; thing < THINGS; thing++) {
                if (hasBit(set, thing)) {
                    greatest = Math.max(greatest, rankOf(thing));
                }
            }
            return greatest;
        }

        /** The set of the ingredients of a thing and of the substitutes of these. */
        private int needsOf(int thing) {
            int set = 0;
            int count = ingredientsOf(thing);
            for (int k = 0; k < count; k++) {
                int part = ingredientAt(thing, k);
                set |= 1 << part;
                int others = substitutesOf(part);
                for (int s = 0; s < others; s++) {
                    set |= 1 << substituteAt(part, s);
                }
            }
            return set;
        }

        /** The set of all things that can be needed for a thing. */
        int allNeedsOf(int thing) {
            int set = needsOf(thing);
            for (int round = 0; round < THINGS; round++) {
                int wider = set;
                for (int other = 0; other < THINGS; other++) {
                    if (hasBit(set, other)) {
                        wider |= needsOf(other);
                    }
                }
                if (wider == set) {
                    return set;
                }
                set = wider;
            }
            return set;
        }
    }

    /** The amounts in the store, and the accounts of where they came from and went to. */
    private static final class Stock {
        private final int[] amounts = new int[THINGS];
        private final int[] gathered = new int[THINGS];
        private final int[] made = new int[THINGS];
        private final int[] used = new int[THINGS];
        private final int[] returned = new int[THINGS];
        private final int[] brought = new int[THINGS];
        private int batches;

        void copyFrom(Stock other) {
            copy(other.amounts, amounts);
            copy(other.gathered, gathered);
            copy(other.made, made);
            copy(other.used, used);
            copy(other.returned, returned);
            copy(other.brought, brought);
            batches = other.batches;
        }
    }

    /** Makes one wish come true, on a copy of the store, until it fails. */
    private static final class Works {
        private final Stock bench = new Stock();
        private boolean mayGather;
        private boolean failed;
        private int batches;
        private int gathered;

        void begin(Stock stock, boolean gathering) {
            bench.copyFrom(stock);
            mayGather = gathering;
            failed = false;
            batches = 0;
            gathered = 0;
        }

        /** How many things were gathered for the wish. */
        int gathered() {
            return gathered;
        }

        /** Puts one more of a thing into the store; false if there is no room for it. */
        boolean receive(int thing) {
            add(bench.amounts, thing, 1);
            return at(bench.amounts, thing) <= MOST_IN_STORE;
        }

        /** Provides what is missing of a thing to n; false if the wish fails. */
        boolean fulfil(Book book, int thing, int n) {
            int missing = n - at(bench.amounts, thing);
            if (missing > 0) {
                provide(book, thing, missing, 0);
            }
            return !failed;
        }

        /** Makes batches of a thing; false if the wish fails. */
        boolean runAll(Book book, int thing, int count) {
            run(book, thing, count, 0);
            return !failed;
        }

        private void provide(Book book, int thing, int missing, int depth) {
            if (book.isMade(thing)) {
                run(book, thing, divideUp(missing, book.yieldOf(thing)), depth);
            } else {
                collect(thing, missing);
            }
        }

        private void run(Book book, int thing, int count, int depth) {
            batches += count;
            // Ranks keep the depth low; the guard is for a book that could not be.
            if (batches > MOST_BATCHES || depth > GREATEST_RANK) {
                failed = true;
            }
            int ingredients = book.ingredientsOf(thing);
            for (int k = 0; k < ingredients && !failed; k++) {
                take(book, book.ingredientAt(thing, k), book.amountAt(thing, k) * count, depth);
            }
            if (!failed) {
                comeIn(thing, book.yieldOf(thing) * count, bench.made);
                bench.batches += count;
            }
        }

        private void take(Book book, int thing, int n, int depth) {
            int missing = n - useUp(book, thing, n);
            int substitutes = book.substitutesOf(thing);
            for (int k = 0; k < substitutes && missing > 0; k++) {
                missing -= useUp(book, book.substituteAt(thing, k), missing);
            }
            if (missing > 0 && !failed) {
                int provided = standIn(book, thing);
                provide(book, provided, missing, depth + 1);
                useUp(book, provided, missing);
            }
        }

        /** The thing that is provided where a thing is missing: itself, or a substitute that is made. */
        private int standIn(Book book, int thing) {
            if (book.isMade(thing)) {
                return thing;
            }
            int substitutes = book.substitutesOf(thing);
            for (int k = 0; k < substitutes; k++) {
                if (book.isMade(book.substituteAt(thing, k))) {
                    return book.substituteAt(thing, k);
                }
            }
            return thing;
        }

        /** Uses up what there is of a thing, but no more than is wanted; answers how many. */
        private int useUp(Book book, int thing, int wanted) {
            int n = Math.min(wanted, at(bench.amounts, thing));
            add(bench.amounts, thing, -n);
            add(bench.used, thing, n);
            int vessel = book.vesselOf(thing);
            if (vessel != NONE) {
                comeIn(vessel, n, bench.returned);
            }
            return n;
        }

        private void collect(int thing, int n) {
            if (!mayGather) {
                failed = true;
            }
            gathered += n;
            comeIn(thing, n, bench.gathered);
        }

        /** Puts things into the store, and counts them in the account of where they come from. */
        private void comeIn(int thing, int n, int[] account) {
            add(bench.amounts, thing, n);
            add(account, thing, n);
            if (at(bench.amounts, thing) > MOST_IN_STORE) {
                failed = true;
            }
        }
    }

    /** A book and a stock as they were at one time. */
    private static final class State {
        private final Book book = new Book();
        private final Stock stock = new Stock();

        void hold(Book presentBook, Stock presentStock) {
            book.copyFrom(presentBook);
            stock.copyFrom(presentStock);
        }

        void layOut(Book presentBook, Stock presentStock) {
            presentBook.copyFrom(book);
            presentStock.copyFrom(stock);
        }
    }

    /** The latest states before changes, in a ring in which the oldest one gives way. */
    private static final class History {
        private final State[] states = new State[MOST_RECORDED];
        private int oldest;
        private int size;

        int size() {
            return size;
        }

        void remember(Book book, Stock stock) {
            int place = placeOf(size);
            if (size < MOST_RECORDED) {
                size++;
            } else {
                oldest = placeOf(1);
            }
            roomAt(states, place).hold(book, stock);
        }

        /** Removes the latest state and restores it; does nothing if there is none. */
        void restore(Book book, Stock stock) {
            if (size < 1) {
                return;
            }
            size--;
            State state = stateAt(states, placeOf(size));
            if (state != null) {
                state.layOut(book, stock);
            }
        }

        /** The place of a state in the ring, told by its age: 0 for the oldest one. */
        private int placeOf(int k) {
            return Math.floorMod(oldest + k, MOST_RECORDED);
        }
    }

    /** Reads a text as a recipe, from left to right up to the first fault. */
    private static final class RecipeReader {
        private final int[] ingredients = new int[MOST_INGREDIENTS];
        private final int[] amounts = new int[MOST_INGREDIENTS];
        private int made;
        private int yielded;
        private int count;
        private int faultKind;
        private int faultPlace;
        private int place;

        void read(int[] text, int length) {
            place = 0;
            count = 0;
            faultKind = NO_FAULT;
            faultPlace = 0;
            made = readLetter(text, length);
            yielded = readNumber(text, length);
            readSign(text, length, '=');
            readIngredient(text, length);
            // The sixth ingredient is a fault, so no more rounds are needed.
            for (int k = 0; k < MOST_INGREDIENTS && isMore(text, length); k++) {
                readSign(text, length, '+');
                readIngredient(text, length);
            }
        }

        private boolean isMore(int[] text, int length) {
            skipBlanks(text, length);
            return faultKind == NO_FAULT && place < length;
        }

        private void readIngredient(int[] text, int length) {
            int amount = readNumber(text, length);
            int letter = readLetter(text, length);
            if (faultKind != NO_FAULT) {
                return;
            }
            if (count >= MOST_INGREDIENTS || isListed(letter)) {
                tellFault(WRONG_INGREDIENT, place - 1);
                return;
            }
            put(ingredients, count, letter);
            put(amounts, count, amount);
            count++;
        }

        private boolean isListed(int letter) {
            for (int k = 0; k < count; k++) {
                if (at(ingredients, k) == letter) {
                    return true;
                }
            }
            return false;
        }

        /** Reads a letter and answers its thing. */
        private int readLetter(int[] text, int length) {
            skipBlanks(text, length);
            int thing = at(text, place) - 'a';
            if (place >= length) {
                tellFault(EARLY_END, length);
            } else if (!isThing(thing)) {
                tellFault(WRONG_BYTE, place);
            }
            place++;
            return thing;
        }

        private void readSign(int[] text, int length, int sign) {
            skipBlanks(text, length);
            if (place >= length) {
                tellFault(EARLY_END, length);
            } else if (at(text, place) != sign) {
                tellFault(WRONG_BYTE, place);
            }
            place++;
        }

        /** Reads a number if one stands here, and answers it, otherwise 1. */
        private int readNumber(int[] text, int length) {
            skipBlanks(text, length);
            if (!isDigit(text, length, place)) {
                return 1;
            }
            int first = place;
            int number = at(text, place) - '0';
            place++;
            if (isDigit(text, length, place)) {
                number = number * 10 + at(text, place) - '0';
                place++;
            }
            if (isDigit(text, length, place)) {
                tellFault(WRONG_BYTE, place);
            } else if (number < 1 || number > GREATEST_NUMBER) {
                tellFault(WRONG_NUMBER, first);
            }
            return number;
        }

        private boolean isDigit(int[] text, int length, int i) {
            return i < length && at(text, i) >= '0' && at(text, i) <= '9';
        }

        private void skipBlanks(int[] text, int length) {
            while (place < length && at(text, place) == ' ') {
                place++;
            }
        }

        /** Tells a fault, if it is the first one. */
        private void tellFault(int kind, int where) {
            if (faultKind == NO_FAULT) {
                faultKind = kind;
                faultPlace = where;
            }
        }
    }
}
