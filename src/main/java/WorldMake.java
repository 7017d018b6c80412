/**
 * A maker of worlds for stories. The calls of the face judge what they are asked (refusals, faults and
 * sentences they would go against) and only then hand it to the classes inside, which hold the state
 * and take for granted that the numbers they get were looked at.
 */
public final class WorldMake {
    public static final int UNKNOWN = -1, OUTSIDE = -2, STATE = -3, FULL = -4, NOWAY = -5, NONE = -9;

    private static final int NULL = 1, INDEX = 2, CAST = 3, STORE = 4, SIZE = 5, QUOTIENT = 6;
    private static final int FAULTS_FROM = -10, AGAINST_FROM = -100;

    private static final int THING = 0, ROOM = 1, DOOR = 2, BACKDROP = 3, CARRIER = 4, PERSON = 5;

    private static final int PUT = 0, BAR = 1, GIVE = 2, AMONG = 3, PAIR = 4, MOST = 5,
            RELATE = 6, DENY = 7, EXIT = 8, DOORWAY = 9;

    private static final int ONE_TO_ONE = 0, ONE_TO_MANY = 1, MANY_TO_ONE = 2, EACH_OTHER = 4, GROUPS = 5;

    private static final int NO_EXIT = 0, ASSUMED = 1, TO_ROOM = 2, BY_DOOR = 3, TO_NOTHING = 4;

    private static final int BULK = 0, WORTH = 1, LOAD = 2, LID = 3, STRIDE = 4;

    private static final int LANES = 9, LANE_OF_THINGS = 8;

    private static final int KINDS = 24, PROPERTIES = 12, THINGS = 64, SENTENCES = 300, RELATIONS = 8,
            SHELVES = 10, TABLES = 6, PAIRS = 16, HOMES = 6, DIRECTIONS = 8, SHELF_PLACES = 16,
            ROWS = 16, COLUMNS = 5, LARGEST_SIZE = 1000, LARGEST_MOST = 64,
            UNSETTLED_AT_MOST = 7, WAYS_AT_MOST = 3000;

    /** Two counts, 3 words and 12 values for each thing, 8 exits for each room, 2 words for each relation. */
    private static final int WORDS = 2 + THINGS * (3 + PROPERTIES + DIRECTIONS) + 2 * RELATIONS;

    private final Kinds kinds;
    private final Things things;
    private final Values values;
    private final Sentences sentences;
    private final Places places;
    private final Settler settler;
    private final Relations relations;
    private final Rooms rooms;
    private final Shelf[] shelves;
    private final Table[] tables;
    private final int[] hauled;
    private final int[] words;
    private int shelfCount;
    private int tableCount;
    private int wordCount;
    private int latestFault;
    private int latestCame;

    public WorldMake() {
        kinds = new Kinds();
        things = new Things(kinds);
        values = new Values(kinds, things);
        sentences = new Sentences();
        places = new Places(things, sentences);
        settler = new Settler(things, places);
        Walk walk = new Walk();
        relations = new Relations(things, sentences, walk);
        rooms = new Rooms(things, walk);
        shelves = new Shelf[SHELVES];
        for (int i = 0; i < SHELVES; i++) {
            shelves[i] = new Shelf();
        }
        tables = new Table[TABLES];
        for (int i = 0; i < TABLES; i++) {
            tables[i] = new Table();
        }
        hauled = new int[SHELF_PLACES];
        words = new int[WORDS];
        beginAnew();
    }

    /** Rows are not wiped here: each is made ready when what it is of comes (a thing, a property, ..). */
    private void beginAnew() {
        kinds.begin();
        things.number = 0;
        values.number = 0;
        sentences.number = 0;
        places.pairs = 0;
        relations.number = 0;
        shelfCount = 0;
        tableCount = 0;
        wordCount = 0;
        latestFault = 0;
        latestCame = 0;
    }

    private int faulted(int number) {
        latestFault = number;
        return FAULTS_FROM - number;
    }

    private static int against(int sentence) {
        return AGAINST_FROM - sentence;
    }

    private static boolean inRange(int i, int bound) {
        return i >= 0 && i < bound;
    }

    // ---- kinds, properties

    public int kind(int parent) {
        if (!kinds.has(parent)) {
            return UNKNOWN;
        }
        if (kinds.number >= KINDS) {
            return FULL;
        }
        return kinds.add(parent);
    }

    public int is(int kind, int other) {
        if (!kinds.has(kind) || !kinds.has(other)) {
            return UNKNOWN;
        }
        return kinds.fits(kind, other) ? 1 : 0;
    }

    public int property(int kind, int lane, int of) {
        if (!kinds.has(kind) || lane == LANE_OF_THINGS && !kinds.has(of)) {
            return UNKNOWN;
        }
        if (!inRange(lane, LANES)) {
            return OUTSIDE;
        }
        if (values.number >= PROPERTIES) {
            return FULL;
        }
        return values.add(kind, lane, lane == LANE_OF_THINGS ? kinds.baseOf(of) : NONE);
    }

    public int usual(int kind, int property, long v) {
        if (!kinds.has(kind) || !values.has(property) || !values.knows(property, v)) {
            return UNKNOWN;
        }
        if (!kinds.fits(kind, values.owners[property])) {
            return STATE;
        }
        if (!values.takes(property, v)) {
            return faulted(STORE);
        }
        values.tellUsual(kind, property, v);
        return 1;
    }

    // ---- things

    public int thing(int kind, int size) {
        if (!kinds.has(kind)) {
            return UNKNOWN;
        }
        if (size < 0 || size > LARGEST_SIZE) {
            return OUTSIDE;
        }
        if (things.number >= THINGS) {
            return FULL;
        }
        int thing = things.add(kind, size);
        places.begin(thing);
        rooms.begin(thing);
        return thing;
    }

    public int put(int thing, int where) {
        if (!things.has(thing) || !things.has(where)) {
            return UNKNOWN;
        }
        if (!things.mayLieIn(thing, where) || places.isWithin(where, thing) || places.liesIn(thing, where)) {
            return STATE;
        }
        if (sentences.areFull() || places.hasAllHomes(thing)) {
            return FULL;
        }
        int told = places.againstPut(thing, where);
        if (told >= 0) {
            return against(told);
        }
        int sentence = sentences.add(PUT, thing, where, NONE);
        places.lay(thing, where, sentence);
        return sentence;
    }

    public int bar(int thing, int where) {
        if (!things.has(thing) || !things.has(where)) {
            return UNKNOWN;
        }
        if (things.isFixed(thing) || !things.isHolder(where)) {
            return STATE;
        }
        if (sentences.areFull()) {
            return FULL;
        }
        int told = places.againstBar(thing, where);
        if (told >= 0) {
            return against(told);
        }
        places.shut(thing, where);
        return sentences.add(BAR, thing, where, NONE);
    }

    public int give(int thing, int property, long v) {
        if (!things.has(thing) || !values.has(property) || !values.knows(property, v)) {
            return UNKNOWN;
        }
        if (!values.isFor(thing, property)) {
            return STATE;
        }
        if (sentences.areFull()) {
            return FULL;
        }
        if (!values.takes(property, v)) {
            return faulted(STORE);
        }
        if (values.isGivenOtherwise(thing, property, v)) {
            return against(values.givenBy(thing, property));
        }
        int sentence = sentences.add(GIVE, thing, property, NONE);
        values.tellGiven(thing, property, v, sentence);
        return sentence;
    }

    public long value(int thing, int property) {
        if (!things.has(thing) || !values.has(property)) {
            return UNKNOWN;
        }
        if (!values.isFor(thing, property)) {
            return STATE;
        }
        return values.valueOf(thing, property);
    }

    public int given(int thing, int property) {
        if (!things.has(thing) || !values.has(property)) {
            return UNKNOWN;
        }
        return values.givenBy(thing, property);
    }

    public long peek(int property, int lane, int i) {
        if (!values.has(property)) {
            return UNKNOWN;
        }
        if (!inRange(lane, LANES)) {
            return OUTSIDE;
        }
        if (lane != values.lanes[property]) {
            return faulted(CAST);
        }
        if (!inRange(i, THINGS)) {
            return faulted(INDEX);
        }
        return values.givenCell(i, property);
    }

    public int place(int thing, int k) {
        if (!things.has(thing)) {
            return UNKNOWN;
        }
        return places.homeAt(thing, k);
    }

    public int says(int thing, int what) {
        if (!things.has(thing)) {
            return UNKNOWN;
        }
        if (what < BULK || what > STRIDE) {
            return OUTSIDE;
        }
        return saying(thing, what);
    }

    private int saying(int thing, int what) {
        switch (what) {
            case BULK:
                return places.bulk(thing);
            case WORTH:
                return things.worth(thing);
            case LOAD:
                return things.isHolder(thing) ? places.load(thing) : faulted(CAST);
            case LID:
                return things.hasLid(thing) ? things.lid(thing) : faulted(CAST);
            default:
                return things.bases[thing] == PERSON ? stride(thing) : faulted(CAST);
        }
    }

    private int stride(int person) {
        int load = places.load(person);
        return load == 0 ? faulted(QUOTIENT) : 1000 / load;
    }

    public int follow(int thing, int property, int what) {
        if (!things.has(thing) || !values.has(property)) {
            return UNKNOWN;
        }
        if (what < BULK || what > STRIDE) {
            return OUTSIDE;
        }
        if (!values.isFor(thing, property)) {
            return STATE;
        }
        if (values.lanes[property] != LANE_OF_THINGS) {
            return faulted(CAST);
        }
        long other = values.valueOf(thing, property);
        return things.has(other) ? saying((int) other, what) : faulted(NULL);
    }

    public int mark(int thing, int how) {
        if (!things.has(thing)) {
            return UNKNOWN;
        }
        if (how != 0 && how != 1) {
            return OUTSIDE;
        }
        if (how == 1 && !things.hasLid(thing)) {
            return faulted(CAST);
        }
        return how == 0 ? things.marks[thing] : things.ownMarks[thing];
    }

    public int remark(int thing, int how, int v) {
        if (!things.has(thing)) {
            return UNKNOWN;
        }
        if (how != 0 && how != 1 || v < 0 || v > LARGEST_SIZE) {
            return OUTSIDE;
        }
        if (how == 1 && !things.hasLid(thing)) {
            return faulted(CAST);
        }
        int[] row = how == 0 ? things.marks : things.ownMarks;
        int was = row[thing];
        row[thing] = v;
        return was;
    }

    public int open(int thing, boolean is) {
        if (!things.has(thing)) {
            return UNKNOWN;
        }
        if (!things.hasLid(thing)) {
            return faulted(CAST);
        }
        int was = things.opened[thing] ? 1 : 0;
        things.opened[thing] = is;
        return was;
    }

    // ---- places that are not sure

    public int among(int thing, long set) {
        if (!things.has(thing) || (set & ~things.all()) != 0) {
            return UNKNOWN;
        }
        if (set == 0) {
            return OUTSIDE;
        }
        if (!things.liesInOne(thing) || (set & bit(thing)) != 0 || (set & ~things.holders()) != 0) {
            return STATE;
        }
        if (sentences.areFull()) {
            return FULL;
        }
        int told = places.againstAmong(thing, set);
        if (told >= 0) {
            return against(told);
        }
        int sentence = sentences.add(AMONG, thing, (int) set, NONE);
        places.narrow(thing, set, sentence);
        return sentence;
    }

    public int pair(int one, int other, boolean alike) {
        if (!things.has(one) || !things.has(other)) {
            return UNKNOWN;
        }
        if (one == other || !things.liesInOne(one) || !things.liesInOne(other)) {
            return STATE;
        }
        if (sentences.areFull() || places.pairs >= PAIRS) {
            return FULL;
        }
        int told = places.againstPairing(one, other, alike);
        if (told >= 0) {
            return against(told);
        }
        int sentence = sentences.add(PAIR, one, other, NONE);
        places.addPair(one, other, alike, sentence);
        return sentence;
    }

    public int most(int where, int n) {
        if (!things.has(where)) {
            return UNKNOWN;
        }
        if (n < 0 || n > LARGEST_MOST) {
            return OUTSIDE;
        }
        if (!things.isHolder(where) || places.hasMost(where)) {
            return STATE;
        }
        if (sentences.areFull()) {
            return FULL;
        }
        int told = places.putBehind(where, n);
        if (told >= 0) {
            return against(told);
        }
        int sentence = sentences.add(MOST, where, n, NONE);
        places.tellMost(where, n, sentence);
        return sentence;
    }

    public int settle() {
        int unsettled = places.unsettled();
        if (unsettled > UNSETTLED_AT_MOST || settler.ways() > WAYS_AT_MOST) {
            return STATE;
        }
        if (sentences.number + unsettled > SENTENCES) {
            return FULL;
        }
        if (!settler.takeLeastWay(sentences.number)) {
            return NOWAY;
        }
        for (int i = 0; i < unsettled; i++) {
            int thing = settler.thingAt(i);
            sentences.add(PUT, thing, places.homeAt(thing, 0), NONE);
        }
        return unsettled;
    }

    public long set(int thing) {
        return things.has(thing) ? places.setOf(thing) : 0;
    }

    // ---- relations

    public int relation(int form) {
        if (form < ONE_TO_ONE || form > GROUPS) {
            return OUTSIDE;
        }
        if (relations.number >= RELATIONS) {
            return FULL;
        }
        return relations.add(form);
    }

    public int relate(int relation, int a, int b) {
        if (!areRelatable(relation, a, b)) {
            return UNKNOWN;
        }
        if (a == b || relations.holds(relation, a, b)) {
            return STATE;
        }
        if (sentences.areFull()) {
            return FULL;
        }
        int told = relations.againstRelate(relation, a, b);
        if (told >= 0) {
            return against(told);
        }
        relations.join(relation, a, b);
        return sentences.add(RELATE, relation, a, b);
    }

    public int deny(int relation, int a, int b) {
        if (!areRelatable(relation, a, b)) {
            return UNKNOWN;
        }
        if (a == b || sentences.earliest(DENY, relation, a, b) >= 0) {
            return STATE;
        }
        if (sentences.areFull()) {
            return FULL;
        }
        if (relations.holds(relation, a, b)) {
            return against(relations.heldBy(relation, a, b));
        }
        return sentences.add(DENY, relation, a, b);
    }

    public int related(int relation, int a, int b) {
        if (!areRelatable(relation, a, b)) {
            return UNKNOWN;
        }
        return relations.holds(relation, a, b) ? 1 : 0;
    }

    public int along(int relation, int a, int b) {
        if (!areRelatable(relation, a, b)) {
            return UNKNOWN;
        }
        return relations.walkFrom(relation, a).far[b];
    }

    public int next(int relation, int a, int b) {
        if (!areRelatable(relation, a, b)) {
            return UNKNOWN;
        }
        return relations.walkFrom(relation, a).heads[b];
    }

    private boolean areRelatable(int relation, int a, int b) {
        return relations.has(relation) && things.has(a) && things.has(b);
    }

    // ---- the map

    public int exit(int room, int d, int to) {
        if (!things.isRoom(room) || to != NONE && !things.isRoom(to)) {
            return UNKNOWN;
        }
        if (!inRange(d, DIRECTIONS)) {
            return OUTSIDE;
        }
        if (rooms.isTold(room, d) && rooms.sortOf(room, d) != BY_DOOR && rooms.leadsTo(room, d) == to) {
            return STATE;
        }
        if (sentences.areFull()) {
            return FULL;
        }
        if (rooms.isTold(room, d)) {
            return against(rooms.toldIn(room, d));
        }
        int sentence = sentences.add(EXIT, room, d, to);
        rooms.tellExit(room, d, to, sentence);
        return sentence;
    }

    public int door(int door, int a, int d, int b) {
        if (!things.has(door) || !things.isRoom(a) || !things.isRoom(b)) {
            return UNKNOWN;
        }
        if (!inRange(d, DIRECTIONS)) {
            return OUTSIDE;
        }
        if (things.bases[door] != DOOR || a == b) {
            return STATE;
        }
        if (sentences.areFull()) {
            return FULL;
        }
        int told = rooms.againstDoor(door, a, d, b);
        if (told >= 0) {
            return against(told);
        }
        int sentence = sentences.add(DOORWAY, door, a, d);
        rooms.tellDoor(door, a, d, b, sentence);
        return sentence;
    }

    public int leads(int room, int d) {
        if (!things.isRoom(room)) {
            return UNKNOWN;
        }
        return inRange(d, DIRECTIONS) ? rooms.leadsTo(room, d) : OUTSIDE;
    }

    public int sort(int room, int d) {
        if (!things.isRoom(room)) {
            return UNKNOWN;
        }
        return inRange(d, DIRECTIONS) ? rooms.sortOf(room, d) : OUTSIDE;
    }

    public int route(int a, int b, boolean any) {
        if (!things.isRoom(a) || !things.isRoom(b)) {
            return UNKNOWN;
        }
        return rooms.walkFrom(a, any).far[b];
    }

    public int first(int a, int b, boolean any) {
        if (!things.isRoom(a) || !things.isRoom(b)) {
            return UNKNOWN;
        }
        return rooms.walkFrom(a, any).heads[b];
    }

    // ---- shelves

    public int shelf(int kind, int n) {
        if (!kinds.has(kind)) {
            return UNKNOWN;
        }
        if (n > SHELF_PLACES) {
            return OUTSIDE;
        }
        if (shelfCount >= SHELVES) {
            return FULL;
        }
        if (n < 0) {
            return faulted(SIZE);
        }
        shelves[shelfCount].begin(kinds.baseOf(kind), n);
        return shelfCount++;
    }

    public int stand(int shelf, int i, int thing) {
        if (!inRange(shelf, shelfCount) || thing != NONE && !things.has(thing)) {
            return UNKNOWN;
        }
        Shelf row = shelves[shelf];
        if (!inRange(i, row.length)) {
            return faulted(INDEX);
        }
        if (!shelfTakes(row, thing)) {
            return faulted(STORE);
        }
        row.standing[i] = thing;
        return 1;
    }

    private boolean shelfTakes(Shelf row, int thing) {
        return thing == NONE || kinds.fits(things.bases[thing], row.base);
    }

    public int stands(int shelf, int i) {
        if (!inRange(shelf, shelfCount)) {
            return UNKNOWN;
        }
        return inRange(i, shelves[shelf].length) ? shelves[shelf].standing[i] : faulted(INDEX);
    }

    public int haul(int from, int i, int to, int j, int n) {
        if (!inRange(from, shelfCount) || !inRange(to, shelfCount)) {
            return UNKNOWN;
        }
        Shelf source = shelves[from];
        Shelf target = shelves[to];
        if (!source.spans(i, n) || !target.spans(j, n)) {
            return faulted(INDEX);
        }
        // Both may be one shelf whose places overlap: what comes is what stood there ahead of the call.
        for (int k = 0; k < n; k++) {
            hauled[k] = source.standing[i + k];
        }
        latestCame = 0;
        for (int k = 0; k < n; k++) {
            if (!shelfTakes(target, hauled[k])) {
                return faulted(STORE);
            }
            target.standing[j + k] = hauled[k];
            latestCame++;
        }
        return n;
    }

    public int came() {
        return latestCame;
    }

    // ---- tables

    public int table(int rows, int columns, int lanes) {
        if (rows < 1 || rows > ROWS || columns < 1 || columns > COLUMNS || !areLanes(lanes, columns)) {
            return OUTSIDE;
        }
        if (tableCount >= TABLES) {
            return FULL;
        }
        tables[tableCount].begin(rows, columns, lanes);
        return tableCount++;
    }

    private static boolean areLanes(int lanes, int columns) {
        int rest = lanes;
        for (int c = 0; c < columns; c++) {
            if (rest < 0 || rest % 10 >= LANE_OF_THINGS) {
                return false;
            }
            rest /= 10;
        }
        return rest == 0;
    }

    public int fill(int table, int row, int column, long v) {
        if (!inRange(table, tableCount)) {
            return UNKNOWN;
        }
        if (!tables[table].hasCell(row, column)) {
            return faulted(INDEX);
        }
        tables[table].write(row, column, v);
        return 1;
    }

    public int blank(int table, int row, int column) {
        if (!inRange(table, tableCount)) {
            return UNKNOWN;
        }
        if (!tables[table].hasCell(row, column)) {
            return faulted(INDEX);
        }
        return tables[table].wipe(row, column) ? 1 : 0;
    }

    public long read(int table, int row, int column) {
        if (!inRange(table, tableCount)) {
            return UNKNOWN;
        }
        if (!tables[table].hasCell(row, column)) {
            return faulted(INDEX);
        }
        return tables[table].isBlank(row, column) ? faulted(NULL) : tables[table].told(row, column);
    }

    public int choose(int table, int column, long v, int from) {
        if (!inRange(table, tableCount)) {
            return UNKNOWN;
        }
        if (!inRange(from, ROWS)) {
            return OUTSIDE;
        }
        if (!inRange(column, tables[table].columns)) {
            return faulted(INDEX);
        }
        return tables[table].rowWith(column, v, from);
    }

    public int rank(int table, int column, boolean falling) {
        if (!inRange(table, tableCount)) {
            return UNKNOWN;
        }
        return inRange(column, tables[table].columns) ? tables[table].order(column, falling) : faulted(INDEX);
    }

    public long total(int table, int column) {
        if (!inRange(table, tableCount)) {
            return UNKNOWN;
        }
        return inRange(column, tables[table].columns) ? tables[table].sum(column) : faulted(INDEX);
    }

    public long mean(int table, int column) {
        if (!inRange(table, tableCount)) {
            return UNKNOWN;
        }
        if (!inRange(column, tables[table].columns)) {
            return faulted(INDEX);
        }
        int filled = tables[table].filledIn(column);
        return filled == 0 ? faulted(QUOTIENT) : tables[table].sum(column) / filled;
    }

    // ---- all of it

    public int make() {
        if (!things.haveRoom() || places.unsettled() > 0) {
            return STATE;
        }
        wordCount = 0;
        addWord(kinds.number);
        addWord(things.number);
        for (int thing = 0; thing < things.number; thing++) {
            addWordsOfThing(thing);
        }
        for (int thing = 0; thing < things.number; thing++) {
            if (things.isRoom(thing)) {
                addWordsOfRoom(thing);
            }
        }
        for (int relation = 0; relation < relations.number; relation++) {
            addWord(relations.forms[relation]);
            addWord(relations.couples(relation));
        }
        return wordCount;
    }

    private void addWord(int word) {
        if (wordCount < WORDS) {
            words[wordCount++] = word;
        }
    }

    private void addWordsOfThing(int thing) {
        addWord(things.kindOf[thing]);
        addWord(places.homeAt(thing, 0));
        addWord(things.sizes[thing]);
        for (int property = 0; property < values.number; property++) {
            if (values.isFor(thing, property)) {
                addWord((int) values.valueOf(thing, property));
            }
        }
    }

    private void addWordsOfRoom(int room) {
        for (int d = 0; d < DIRECTIONS; d++) {
            addWord(rooms.leadsTo(room, d));
        }
    }

    public int word(int i) {
        return inRange(i, wordCount) ? words[i] : NONE;
    }

    public long digest() {
        long h = 17;
        for (int i = 0; i < wordCount; i++) {
            h = 31 * h + words[i];
        }
        return h;
    }

    public int sentence(int i, int what) {
        if (!inRange(i, sentences.number)) {
            return UNKNOWN;
        }
        switch (what) {
            case 0:
                return sentences.sorts[i];
            case 1:
                return sentences.ones[i];
            case 2:
                return sentences.twos[i];
            default:
                return OUTSIDE;
        }
    }

    public int count(int what) {
        switch (what) {
            case 0:
                return kinds.number;
            case 1:
                return values.number;
            case 2:
                return things.number;
            case 3:
                return sentences.number;
            case 4:
                return relations.number;
            case 5:
                return shelfCount;
            case 6:
                return tableCount;
            case 7:
                return places.unsettled();
            case 8:
                return wordCount;
            case 9:
                return places.pairs;
            default:
                return OUTSIDE;
        }
    }

    public int fault() {
        return latestFault;
    }

    public int clear() {
        int there = things.number;
        beginAnew();
        return there;
    }

    private static long bit(int i) {
        return 1L << i;
    }

    /** What a cell of a lane tells once v has come into it; only that is kept, for unlike cells tell unlike numbers. */
    private static long toldBy(int lane, long v) {
        switch (lane) {
            case 0:
                return v != 0 ? 1 : 0;
            case 1:
                return (byte) v;
            case 2:
                return (short) v;
            case 3:
                return (char) v;
            case 4:
                return (int) v;
            case 6:
                return (long) (float) v;
            case 7:
                return (long) (double) v;
            default:
                return v;
        }
    }

    /** The kinds and their parents. */
    private static final class Kinds {
        final int[] parents = new int[KINDS];
        int number;

        void begin() {
            number = 0;
            add(NONE);
            for (int base = ROOM; base <= CARRIER; base++) {
                add(THING);
            }
            add(CARRIER);
        }

        int add(int parent) {
            parents[number] = parent;
            return number++;
        }

        boolean has(int kind) {
            return inRange(kind, number);
        }

        /** Whether a kind IS another one. A parent's number is below its child's: behind the other's it can stop. */
        boolean fits(int kind, int other) {
            int k = kind;
            for (int steps = 0; k > other && steps < KINDS; steps++) {
                k = parents[k];
            }
            return k == other;
        }

        int baseOf(int kind) {
            int k = kind;
            for (int steps = 0; k > PERSON && steps < KINDS; steps++) {
                k = parents[k];
            }
            return k;
        }
    }

    /** The things, but for where they lie and what they were given. */
    private static final class Things {
        private final Kinds kinds;
        final int[] kindOf = new int[THINGS];
        final int[] bases = new int[THINGS];
        final int[] sizes = new int[THINGS];
        final int[] marks = new int[THINGS];
        final int[] ownMarks = new int[THINGS];
        final boolean[] opened = new boolean[THINGS];
        int number;

        Things(Kinds kinds) {
            this.kinds = kinds;
        }

        int add(int kind, int size) {
            kindOf[number] = kind;
            bases[number] = kinds.baseOf(kind);
            sizes[number] = size;
            marks[number] = size;
            ownMarks[number] = size;
            opened[number] = false;
            return number++;
        }

        boolean has(long thing) {
            return thing >= 0 && thing < number;
        }

        /** The bits of all things. */
        long all() {
            return number >= THINGS ? -1L : bit(number) - 1;
        }

        /** The bits of all holders. */
        long holders() {
            long found = 0;
            for (int thing = 0; thing < number; thing++) {
                if (isHolder(thing)) {
                    found |= bit(thing);
                }
            }
            return found;
        }

        boolean isRoom(int thing) {
            return has(thing) && bases[thing] == ROOM;
        }

        boolean haveRoom() {
            for (int thing = 0; thing < number; thing++) {
                if (bases[thing] == ROOM) {
                    return true;
                }
            }
            return false;
        }

        private boolean isCarrier(int thing) {
            return bases[thing] == CARRIER || bases[thing] == PERSON;
        }

        boolean isHolder(int thing) {
            return bases[thing] == ROOM || isCarrier(thing);
        }

        /** Doors and carriers have a lid and a mark of their own. */
        boolean hasLid(int thing) {
            return bases[thing] == DOOR || isCarrier(thing);
        }

        /** Rooms and doors lie nowhere. */
        boolean isFixed(int thing) {
            return bases[thing] == ROOM || bases[thing] == DOOR;
        }

        /** Whether a thing, where it lies at all, lies in one holder alone. */
        boolean liesInOne(int thing) {
            return !isFixed(thing) && bases[thing] != BACKDROP;
        }

        boolean mayLieIn(int thing, int where) {
            return !isFixed(thing) && (bases[thing] == BACKDROP ? isRoom(where) : isHolder(where));
        }

        int worth(int thing) {
            int plain = 3 * sizes[thing] + 1;
            switch (bases[thing]) {
                case DOOR:
                    return plain + 100;
                case PERSON:
                    return 2 * plain;
                case BACKDROP:
                    return -plain;
                case ROOM:
                    return plain + 1000;
                default:
                    return plain;
            }
        }

        int lid(int thing) {
            if (bases[thing] == DOOR) {
                return 10 * ownMarks[thing] + (opened[thing] ? 1 : 0);
            }
            return ownMarks[thing] + (opened[thing] ? 1000 : 0);
        }
    }

    /** The properties, with what is usual for kinds and what things were given. */
    private static final class Values {
        private final Kinds kinds;
        private final Things things;
        final int[] owners = new int[PROPERTIES];
        final int[] lanes = new int[PROPERTIES];
        private final int[] takenBases = new int[PROPERTIES];
        private final long[] usuals = new long[PROPERTIES * KINDS];
        private final boolean[] hasUsual = new boolean[PROPERTIES * KINDS];
        private final long[] givens = new long[PROPERTIES * THINGS];
        private final int[] givenIn = new int[PROPERTIES * THINGS];
        int number;

        Values(Kinds kinds, Things things) {
            this.kinds = kinds;
            this.things = things;
        }

        int add(int kind, int lane, int takenBase) {
            owners[number] = kind;
            lanes[number] = lane;
            takenBases[number] = takenBase;
            for (int k = 0; k < KINDS; k++) {
                hasUsual[number * KINDS + k] = false;
            }
            for (int thing = 0; thing < THINGS; thing++) {
                givens[number * THINGS + thing] = emptyCell(number);
                givenIn[number * THINGS + thing] = NONE;
            }
            return number++;
        }

        boolean has(int property) {
            return inRange(property, number);
        }

        private long emptyCell(int property) {
            return lanes[property] == LANE_OF_THINGS ? NONE : 0;
        }

        /** Whether v is a value at all for a property: one of things knows nothing, and what there is. */
        boolean knows(int property, long v) {
            return lanes[property] != LANE_OF_THINGS || v == NONE || things.has(v);
        }

        /** Whether a cell of a property takes v, of which knows() was asked. */
        boolean takes(int property, long v) {
            return lanes[property] != LANE_OF_THINGS || !things.has(v)
                    || kinds.fits(things.bases[(int) v], takenBases[property]);
        }

        boolean isFor(int thing, int property) {
            return kinds.fits(things.kindOf[thing], owners[property]);
        }

        void tellUsual(int kind, int property, long v) {
            usuals[property * KINDS + kind] = toldBy(lanes[property], v);
            hasUsual[property * KINDS + kind] = true;
        }

        void tellGiven(int thing, int property, long v, int sentence) {
            givens[property * THINGS + thing] = toldBy(lanes[property], v);
            givenIn[property * THINGS + thing] = sentence;
        }

        /** The latest sentence that gave a thing that, or NONE. */
        int givenBy(int thing, int property) {
            return givenIn[property * THINGS + thing];
        }

        long givenCell(int thing, int property) {
            return givens[property * THINGS + thing];
        }

        boolean isGivenOtherwise(int thing, int property, long v) {
            return givenBy(thing, property) >= 0 && givenCell(thing, property) != toldBy(lanes[property], v);
        }

        long valueOf(int thing, int property) {
            if (givenBy(thing, property) >= 0) {
                return givenCell(thing, property);
            }
            int kind = things.kindOf[thing];
            for (int steps = 0; kind >= 0 && steps < KINDS; steps++) {
                if (hasUsual[property * KINDS + kind]) {
                    return usuals[property * KINDS + kind];
                }
                kind = kinds.parents[kind];
            }
            return emptyCell(property);
        }
    }

    /** The sentences as they came: the sort of each, and up to three numbers of its call. */
    private static final class Sentences {
        final int[] sorts = new int[SENTENCES];
        final int[] ones = new int[SENTENCES];
        final int[] twos = new int[SENTENCES];
        final int[] threes = new int[SENTENCES];
        int number;

        boolean areFull() {
            return number >= SENTENCES;
        }

        int add(int sort, int one, int two, int three) {
            sorts[number] = sort;
            ones[number] = one;
            twos[number] = two;
            threes[number] = three;
            return number++;
        }

        /** The first sentence of a sort with these numbers, or NONE. */
        int earliest(int sort, int one, int two, int three) {
            for (int s = 0; s < number; s++) {
                if (sorts[s] == sort && ones[s] == one && twos[s] == two && threes[s] == three) {
                    return s;
                }
            }
            return NONE;
        }
    }

    /** Where things lie, do not lie, and may lie. */
    private static final class Places {
        private final Things things;
        private final Sentences sentences;
        private final int[] homes = new int[THINGS * HOMES];
        private final int[] homeCounts = new int[THINGS];
        private final int[] putIn = new int[THINGS];
        private final long[] barred = new long[THINGS];
        private final long[] sets = new long[THINGS];
        private final int[] amongIn = new int[THINGS];
        private final int[] inside = new int[THINGS];
        private final int[] mosts = new int[THINGS];
        private final int[] mostIn = new int[THINGS];
        private final int[] pairOnes = new int[PAIRS];
        private final int[] pairOthers = new int[PAIRS];
        private final boolean[] pairAlike = new boolean[PAIRS];
        private final int[] pairIn = new int[PAIRS];
        int pairs;

        Places(Things things, Sentences sentences) {
            this.things = things;
            this.sentences = sentences;
        }

        void begin(int thing) {
            homeCounts[thing] = 0;
            putIn[thing] = NONE;
            barred[thing] = 0;
            sets[thing] = 0;
            amongIn[thing] = NONE;
            inside[thing] = 0;
            mosts[thing] = 0;
            mostIn[thing] = NONE;
        }

        int homeAt(int thing, int k) {
            return inRange(k, homeCounts[thing]) ? homes[thing * HOMES + k] : NONE;
        }

        private boolean isLaid(int thing) {
            return homeCounts[thing] > 0;
        }

        boolean liesIn(int thing, int where) {
            for (int k = 0; k < homeCounts[thing]; k++) {
                if (homes[thing * HOMES + k] == where) {
                    return true;
                }
            }
            return false;
        }

        boolean hasAllHomes(int thing) {
            return things.bases[thing] == BACKDROP && homeCounts[thing] >= HOMES;
        }

        /** Whether a holder is another thing, or lies in it, or in what lies in it, and so on. */
        boolean isWithin(int holder, int outer) {
            int at = holder;
            for (int steps = 0; at >= 0 && steps < THINGS; steps++) {
                if (at == outer) {
                    return true;
                }
                at = homeAt(at, 0);
            }
            return false;
        }

        void lay(int thing, int where, int sentence) {
            homes[thing * HOMES + homeCounts[thing]] = where;
            homeCounts[thing]++;
            putIn[thing] = sentence;
            if (things.bases[thing] != BACKDROP) {
                inside[where]++;
            }
        }

        /** Takes back the lay() of a thing that is no backdrop. */
        void lift(int thing) {
            inside[homes[thing * HOMES]]--;
            homeCounts[thing] = 0;
            putIn[thing] = NONE;
        }

        int againstPut(int thing, int where) {
            boolean counts = things.liesInOne(thing);
            if (counts && isLaid(thing)) {
                return putIn[thing];
            }
            if ((barred[thing] & bit(where)) != 0) {
                return sentences.earliest(BAR, thing, where, NONE);
            }
            if (amongIn[thing] >= 0 && (sets[thing] & bit(where)) == 0) {
                return amongIn[thing];
            }
            if (counts && isCrowded(where)) {
                return mostIn[where];
            }
            return againstPairs(thing, where);
        }

        boolean isCrowded(int where) {
            return hasMost(where) && inside[where] >= mosts[where];
        }

        /** The first pair of a thing with one that lies somewhere that would not let it lie there. */
        int againstPairs(int thing, int where) {
            for (int p = 0; p < pairs; p++) {
                int other = partner(p, thing);
                if (other >= 0 && isLaid(other) && (homeAt(other, 0) == where) != pairAlike[p]) {
                    return pairIn[p];
                }
            }
            return NONE;
        }

        private int partner(int p, int thing) {
            if (pairOnes[p] == thing) {
                return pairOthers[p];
            }
            return pairOthers[p] == thing ? pairOnes[p] : NONE;
        }

        int againstBar(int thing, int where) {
            if (liesIn(thing, where)) {
                return sentences.earliest(PUT, thing, where, NONE);
            }
            return amongIn[thing] >= 0 && (sets[thing] & ~bit(where)) == 0 ? amongIn[thing] : NONE;
        }

        void shut(int thing, int where) {
            barred[thing] |= bit(where);
            sets[thing] &= ~bit(where);
        }

        int againstAmong(int thing, long set) {
            if (isLaid(thing) && (set & bit(homeAt(thing, 0))) == 0) {
                return putIn[thing];
            }
            if (amongIn[thing] >= 0 && (set & sets[thing]) == 0) {
                return amongIn[thing];
            }
            return (set & ~barred[thing]) == 0 ? earliestBarInto(thing, set) : NONE;
        }

        private int earliestBarInto(int thing, long set) {
            for (int s = 0; s < sentences.number; s++) {
                if (sentences.sorts[s] == BAR && sentences.ones[s] == thing && (set & bit(sentences.twos[s])) != 0) {
                    return s;
                }
            }
            return NONE;
        }

        /** A set never has a barred holder, whichever of the two was told first. */
        void narrow(int thing, long set, int sentence) {
            long had = amongIn[thing] >= 0 ? sets[thing] : -1L;
            sets[thing] = set & had & ~barred[thing];
            amongIn[thing] = sentence;
        }

        long setOf(int thing) {
            return sets[thing];
        }

        boolean isUnsettled(int thing) {
            return amongIn[thing] >= 0 && !isLaid(thing);
        }

        int unsettled() {
            int found = 0;
            for (int thing = 0; thing < things.number; thing++) {
                if (isUnsettled(thing)) {
                    found++;
                }
            }
            return found;
        }

        int againstPairing(int one, int other, boolean alike) {
            for (int p = 0; p < pairs; p++) {
                if (partner(p, one) == other && pairAlike[p] != alike) {
                    return pairIn[p];
                }
            }
            if (isLaid(one) && isLaid(other) && (homeAt(one, 0) == homeAt(other, 0)) != alike) {
                return Math.max(putIn[one], putIn[other]);
            }
            return NONE;
        }

        void addPair(int one, int other, boolean alike, int sentence) {
            pairOnes[pairs] = one;
            pairOthers[pairs] = other;
            pairAlike[pairs] = alike;
            pairIn[pairs] = sentence;
            pairs++;
        }

        boolean hasMost(int where) {
            return mostIn[where] >= 0;
        }

        void tellMost(int where, int n, int sentence) {
            mosts[where] = n;
            mostIn[where] = sentence;
        }

        /** Of the sentences that put things (no backdrops) into a holder the one behind the first n, or NONE. */
        int putBehind(int where, int n) {
            int seen = 0;
            for (int s = 0; s < sentences.number; s++) {
                if (sentences.sorts[s] == PUT && sentences.twos[s] == where
                        && things.bases[sentences.ones[s]] != BACKDROP) {
                    if (seen == n) {
                        return s;
                    }
                    seen++;
                }
            }
            return NONE;
        }

        int bulk(int thing) {
            switch (things.bases[thing]) {
                case ROOM:
                    return load(thing);
                case DOOR:
                    return 2 * things.sizes[thing];
                case BACKDROP:
                    return 0;
                case CARRIER:
                case PERSON:
                    return bulkAlone(thing) + load(thing);
                default:
                    return bulkAlone(thing);
            }
        }

        /** The bulk of a thing that can lie in one, without its load. */
        private int bulkAlone(int thing) {
            return things.sizes[thing] + (things.bases[thing] == PERSON ? 10 : 0);
        }

        /** Summed over all that is within the holder, however deep: no recursion is needed that way. */
        int load(int holder) {
            int sum = 0;
            for (int thing = 0; thing < things.number; thing++) {
                if (things.bases[thing] != BACKDROP && isLaid(thing) && isWithin(homeAt(thing, 0), holder)) {
                    sum += bulkAlone(thing);
                }
            }
            return sum;
        }
    }

    /** Looks for the least way that lays all unsettled things. */
    private static final class Settler {
        private final Things things;
        private final Places places;
        private final int[] unsettled = new int[UNSETTLED_AT_MOST];
        private int number;

        Settler(Things things, Places places) {
            this.things = things;
            this.places = places;
        }

        /** What the sets of all unsettled things have, multiplied; counting ends once that is too many. */
        int ways() {
            int ways = 1;
            for (int thing = 0; thing < things.number && ways <= WAYS_AT_MOST; thing++) {
                if (places.isUnsettled(thing)) {
                    ways *= Long.bitCount(places.setOf(thing));
                }
            }
            return ways;
        }

        int thingAt(int i) {
            return unsettled[i];
        }

        /** Lays all unsettled things (7 at most), as if by the sentences from one on; or none of them. */
        boolean takeLeastWay(int sentence) {
            number = 0;
            for (int thing = 0; thing < things.number && number < UNSETTLED_AT_MOST; thing++) {
                if (places.isUnsettled(thing)) {
                    unsettled[number++] = thing;
                }
            }
            return layFrom(0, sentence);
        }

        /**
         * Lays the unsettled things from the i-th on. What bars a thing here bars every way that begins so,
         * and the least holder is tried first, so the first way that is found is the least one.
         */
        private boolean layFrom(int i, int sentence) {
            if (i >= number) {
                return true;
            }
            int thing = unsettled[i];
            long set = places.setOf(thing);
            for (int where = 0; where < things.number; where++) {
                if ((set & bit(where)) != 0 && lets(thing, where)) {
                    places.lay(thing, where, sentence + i);
                    if (layFrom(i + 1, sentence)) {
                        return true;
                    }
                    places.lift(thing);
                }
            }
            return false;
        }

        private boolean lets(int thing, int where) {
            return !places.isWithin(where, thing) && !places.isCrowded(where)
                    && places.againstPairs(thing, where) < 0;
        }
    }

    /** A walk that spreads from one thing, step by step: how far the others are, and by what one sets out to them. */
    private static final class Walk {
        final int[] far = new int[THINGS];
        final int[] heads = new int[THINGS];
        final int[] reached = new int[THINGS];
        int number;

        void begin(int from) {
            for (int thing = 0; thing < THINGS; thing++) {
                far[thing] = NONE;
                heads[thing] = NONE;
            }
            far[from] = 0;
            reached[0] = from;
            number = 1;
        }

        /**
         * One step. As the steps out of the first thing are told with rising heads, all that are equally far
         * wait in the order of their heads: who is reached first, is reached by the least head.
         */
        void step(int from, int to, int head) {
            if (far[to] == NONE && number < THINGS) {
                far[to] = far[from] + 1;
                heads[to] = far[from] == 0 ? head : heads[from];
                reached[number++] = to;
            }
        }
    }

    /** The relations: for each of them and each thing the bits of what it has. */
    private static final class Relations {
        private final Things things;
        private final Sentences sentences;
        private final Walk walk;
        final int[] forms = new int[RELATIONS];
        private final long[] rows = new long[RELATIONS * THINGS];
        private final long[] replayed = new long[THINGS];
        int number;

        Relations(Things things, Sentences sentences, Walk walk) {
            this.things = things;
            this.sentences = sentences;
            this.walk = walk;
        }

        int add(int form) {
            forms[number] = form;
            for (int thing = 0; thing < THINGS; thing++) {
                rows[number * THINGS + thing] = form == GROUPS ? bit(thing) : 0;
            }
            return number++;
        }

        boolean has(int relation) {
            return inRange(relation, number);
        }

        private long rowOf(int relation, int thing) {
            return rows[relation * THINGS + thing];
        }

        boolean holds(int relation, int a, int b) {
            return (rowOf(relation, a) & bit(b)) != 0;
        }

        void join(int relation, int a, int b) {
            int from = relation * THINGS;
            if (forms[relation] == GROUPS) {
                merge(rows, from, a, b);
                return;
            }
            rows[from + a] |= bit(b);
            if (forms[relation] == EACH_OTHER) {
                rows[from + b] |= bit(a);
            }
        }

        /** Makes one group of two, in 64 rows from one on. */
        private static void merge(long[] groups, int from, int a, int b) {
            long both = groups[from + a] | groups[from + b];
            for (int thing = 0; thing < THINGS; thing++) {
                if ((both & bit(thing)) != 0) {
                    groups[from + thing] = both;
                }
            }
        }

        int againstRelate(int relation, int a, int b) {
            int form = forms[relation];
            int denied = earliestDeny(relation, a, b);
            if (denied >= 0) {
                return denied;
            }
            if (form == ONE_TO_ONE || form == MANY_TO_ONE) {
                int other = earliestRelate(relation, a, NONE);
                if (other >= 0) {
                    return other;
                }
            }
            return form == ONE_TO_ONE || form == ONE_TO_MANY ? earliestRelate(relation, NONE, b) : NONE;
        }

        private int earliestDeny(int relation, int a, int b) {
            long ofA = bit(a);
            long ofB = bit(b);
            if (forms[relation] == GROUPS) {
                ofA = rowOf(relation, a);
                ofB = rowOf(relation, b);
            }
            boolean bothWays = forms[relation] == GROUPS || forms[relation] == EACH_OTHER;
            for (int s = 0; s < sentences.number; s++) {
                if (sentences.sorts[s] == DENY && sentences.ones[s] == relation) {
                    long one = bit(sentences.twos[s]);
                    long other = bit(sentences.threes[s]);
                    if ((one & ofA) != 0 && (other & ofB) != 0
                            || bothWays && (one & ofB) != 0 && (other & ofA) != 0) {
                        return s;
                    }
                }
            }
            return NONE;
        }

        /** The first relate() of a to b, NONE standing for any thing; or NONE. */
        private int earliestRelate(int relation, int a, int b) {
            for (int s = 0; s < sentences.number; s++) {
                if (sentences.sorts[s] == RELATE && sentences.ones[s] == relation
                        && (a == NONE || sentences.twos[s] == a) && (b == NONE || sentences.threes[s] == b)) {
                    return s;
                }
            }
            return NONE;
        }

        /** The relate() by which a has b, which holds. */
        int heldBy(int relation, int a, int b) {
            if (forms[relation] == GROUPS) {
                return togetherBy(relation, a, b);
            }
            int told = earliestRelate(relation, a, b);
            return told >= 0 ? told : earliestRelate(relation, b, a);
        }

        /** Groups keep no record of how they grew: they are joined again until both are together. */
        private int togetherBy(int relation, int a, int b) {
            for (int thing = 0; thing < THINGS; thing++) {
                replayed[thing] = bit(thing);
            }
            for (int s = 0; s < sentences.number; s++) {
                if (sentences.sorts[s] == RELATE && sentences.ones[s] == relation) {
                    merge(replayed, 0, sentences.twos[s], sentences.threes[s]);
                    if ((replayed[a] & bit(b)) != 0) {
                        return s;
                    }
                }
            }
            return NONE;
        }

        Walk walkFrom(int relation, int a) {
            walk.begin(a);
            for (int i = 0; i < THINGS && i < walk.number; i++) {
                int from = walk.reached[i];
                long row = rowOf(relation, from);
                for (int to = 0; to < things.number; to++) {
                    if ((row & bit(to)) != 0) {
                        walk.step(from, to, to);
                    }
                }
            }
            return walk;
        }

        /** How many couples a, b there are of which a has b. In groups a thing has itself, which is no couple. */
        int couples(int relation) {
            int found = 0;
            for (int thing = 0; thing < things.number; thing++) {
                found += Long.bitCount(rowOf(relation, thing) & ~bit(thing));
            }
            return found;
        }
    }

    /** The map: for each room and direction its exit. */
    private static final class Rooms {
        private final Things things;
        private final Walk walk;
        private final int[] sorts = new int[THINGS * DIRECTIONS];
        private final int[] ends = new int[THINGS * DIRECTIONS];
        private final int[] doors = new int[THINGS * DIRECTIONS];
        private final int[] exitIn = new int[THINGS * DIRECTIONS];
        private final int[] doorIn = new int[THINGS];

        Rooms(Things things, Walk walk) {
            this.things = things;
            this.walk = walk;
        }

        void begin(int thing) {
            for (int d = 0; d < DIRECTIONS; d++) {
                write(thing * DIRECTIONS + d, NO_EXIT, NONE, NONE, NONE);
            }
            doorIn[thing] = NONE;
        }

        private void write(int exit, int sort, int end, int door, int sentence) {
            sorts[exit] = sort;
            ends[exit] = end;
            doors[exit] = door;
            exitIn[exit] = sentence;
        }

        int sortOf(int room, int d) {
            return sorts[room * DIRECTIONS + d];
        }

        int leadsTo(int room, int d) {
            return ends[room * DIRECTIONS + d];
        }

        boolean isTold(int room, int d) {
            return sortOf(room, d) >= TO_ROOM;
        }

        /** The sentence that told an exit, or NONE. */
        int toldIn(int room, int d) {
            return exitIn[room * DIRECTIONS + d];
        }

        private static int opposite(int d) {
            return d ^ 1;
        }

        void tellExit(int room, int d, int to, int sentence) {
            write(room * DIRECTIONS + d, to == NONE ? TO_NOTHING : TO_ROOM, to, NONE, sentence);
            if (to != NONE && sortOf(to, opposite(d)) == NO_EXIT) {
                write(to * DIRECTIONS + opposite(d), ASSUMED, room, NONE, NONE);
            }
        }

        int againstDoor(int door, int a, int d, int b) {
            if (doorIn[door] >= 0) {
                return doorIn[door];
            }
            int told = toldIn(a, d);
            return told >= 0 ? told : toldIn(b, opposite(d));
        }

        void tellDoor(int door, int a, int d, int b, int sentence) {
            doorIn[door] = sentence;
            write(a * DIRECTIONS + d, BY_DOOR, b, door, sentence);
            write(b * DIRECTIONS + opposite(d), BY_DOOR, a, door, sentence);
        }

        private boolean isPassable(int room, int d, boolean any) {
            int door = doors[room * DIRECTIONS + d];
            return leadsTo(room, d) >= 0 && (any || door < 0 || things.opened[door]);
        }

        Walk walkFrom(int a, boolean any) {
            walk.begin(a);
            for (int i = 0; i < THINGS && i < walk.number; i++) {
                int room = walk.reached[i];
                for (int d = 0; d < DIRECTIONS; d++) {
                    if (isPassable(room, d, any)) {
                        walk.step(room, leadsTo(room, d), d);
                    }
                }
            }
            return walk;
        }
    }

    /** A row of places for things of a base. */
    private static final class Shelf {
        final int[] standing = new int[SHELF_PLACES];
        int base;
        int length;

        void begin(int base, int length) {
            this.base = base;
            this.length = length;
            for (int i = 0; i < SHELF_PLACES; i++) {
                standing[i] = NONE;
            }
        }

        /** Whether n places from i on are all there. Written so that no sum can wrap. */
        boolean spans(int i, int n) {
            return i >= 0 && n >= 0 && i <= length && n <= length - i;
        }
    }

    /** A table: of each cell whether it is filled, and what it tells. */
    private static final class Table {
        private final long[] cells = new long[ROWS * COLUMNS];
        private final boolean[] filled = new boolean[ROWS * COLUMNS];
        private final int[] lanes = new int[COLUMNS];
        private final int[] origins = new int[ROWS];
        private int rows;
        int columns;

        void begin(int rows, int columns, int digits) {
            this.rows = rows;
            this.columns = columns;
            int rest = digits;
            for (int c = 0; c < columns; c++) {
                lanes[c] = rest % 10;
                rest /= 10;
            }
            for (int i = 0; i < ROWS * COLUMNS; i++) {
                filled[i] = false;
            }
        }

        boolean hasCell(int row, int column) {
            return inRange(row, rows) && inRange(column, columns);
        }

        boolean isBlank(int row, int column) {
            return !filled[row * COLUMNS + column];
        }

        long told(int row, int column) {
            return cells[row * COLUMNS + column];
        }

        void write(int row, int column, long v) {
            cells[row * COLUMNS + column] = toldBy(lanes[column], v);
            filled[row * COLUMNS + column] = true;
        }

        boolean wipe(int row, int column) {
            boolean was = filled[row * COLUMNS + column];
            filled[row * COLUMNS + column] = false;
            return was;
        }

        int rowWith(int column, long v, int from) {
            for (int row = from; row < rows; row++) {
                if (!isBlank(row, column) && told(row, column) == v) {
                    return row;
                }
            }
            return NONE;
        }

        /** Only a row that must stand ahead of its neighbour passes it, so rows that are alike stay as they were. */
        int order(int column, boolean falling) {
            for (int row = 0; row < rows; row++) {
                origins[row] = row;
            }
            for (int row = 1; row < rows; row++) {
                for (int at = row; at > 0 && isAhead(at, at - 1, column, falling); at--) {
                    swap(at, at - 1);
                }
            }
            int moved = 0;
            for (int row = 0; row < rows; row++) {
                if (origins[row] != row) {
                    moved++;
                }
            }
            return moved;
        }

        private boolean isAhead(int row, int other, int column, boolean falling) {
            if (isBlank(row, column)) {
                return false;
            }
            if (isBlank(other, column)) {
                return true;
            }
            return falling ? told(row, column) > told(other, column) : told(row, column) < told(other, column);
        }

        private void swap(int row, int other) {
            int origin = origins[row];
            origins[row] = origins[other];
            origins[other] = origin;
            for (int c = 0; c < columns; c++) {
                int here = row * COLUMNS + c;
                int there = other * COLUMNS + c;
                long cell = cells[here];
                boolean has = filled[here];
                cells[here] = cells[there];
                filled[here] = filled[there];
                cells[there] = cell;
                filled[there] = has;
            }
        }

        long sum(int column) {
            long sum = 0;
            for (int row = 0; row < rows; row++) {
                if (!isBlank(row, column)) {
                    sum += told(row, column);
                }
            }
            return sum;
        }

        int filledIn(int column) {
            int found = 0;
            for (int row = 0; row < rows; row++) {
                if (!isBlank(row, column)) {
                    found++;
                }
            }
            return found;
        }
    }
}
