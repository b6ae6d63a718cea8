/**
 * A consolidator for a statute: provisions with labels that stay stable, cross references,
 * amendments that are applied in the order of their commencement, conflicts between amendments,
 * and the consolidated text of every day.
 *
 * <p>All arrays are made once, in the constructors: no call makes an object.
 */
public final class StatuteConsolidator {
    public static final int NO_SUCH_PROVISION = -1;
    public static final int NO_SUCH_POSITION = -2;
    public static final int NO_SUCH_AMENDMENT = -3;
    public static final int NO_SUCH_DAY = -4;
    public static final int BAD_VALUE = -5;
    public static final int FULL = -6;
    public static final int NO_LABEL = -7;
    public static final int TOO_DEEP = -8;
    public static final int NONE = -9;
    public static final int DANGLING = -10;
    public static final int MISSING = -11;
    public static final int INDEX_OUT_OF_RANGE = -12;
    public static final int WRONG_TYPE = -13;
    public static final int NEGATIVE_LENGTH = -14;
    public static final int SYNTAX_ERROR = -1000;

    private static final int MAX_ORIGINAL = 30;
    private static final int MAX_PROVISIONS = 60;
    private static final int MAX_REFERENCES = 4;
    private static final int MAX_AMENDMENTS = 8;
    private static final int MAX_INPUT = 120;
    /** The shortest instruction, "add 1 1", takes eight characters with its semicolon. */
    private static final int MAX_INSTRUCTIONS = 15;
    private static final int ALL_INSTRUCTIONS = MAX_AMENDMENTS * MAX_INSTRUCTIONS;
    private static final int MAX_TEXT = 9999;
    private static final int LAST_DAY = 9999;
    private static final int ORIGINAL_DAY = -1;
    private static final int DEEPEST_LEVEL = 3;

    private static final int SHELVES = 3;
    private static final int MAX_SHELF_LENGTH = 10;
    private static final int ANY_LEVEL = 0;

    private static final int INSERT = 0;
    private static final int ADD = 1;
    private static final int REPLACE = 2;
    private static final int REPEAL = 3;
    private static final int MOVE = 4;
    private static final int RENUMBER = 5;
    private static final int KINDS = 6;

    private static final int APPLIED = 0;
    private static final int NOT_FOUND = 1;
    private static final int IS_REPEALED = 2;
    private static final int WRONG_LEVEL = 3;
    private static final int VERSION_FULL = 4;
    private static final int WITHOUT_LABEL = 5;

    private static final int ACCEPTED = 0;
    private static final int NOWHERE = -1;

    private static final int FLOAT_PRECISION = 24;
    private static final int FLOAT_BIAS = 127;
    private static final int FLOAT_NAN = 0x7fc00000;
    private static final int DOUBLE_PRECISION = 53;
    private static final int DOUBLE_BIAS = 1023;
    private static final long DOUBLE_NAN = 0x7ff8000000000000L;

    private final Statute statute;
    private final Statute snapshot;
    private boolean snapshotSaved;
    private final Input input;
    private final Shelves shelves;
    private final Version version;
    /** The second version of the calls that compare two. */
    private final Version otherVersion;

    public StatuteConsolidator() {
        statute = new Statute();
        snapshot = new Statute();
        snapshotSaved = false;
        input = new Input();
        shelves = new Shelves();
        version = new Version();
        otherVersion = new Version();
    }

    // ---- original text

    public int addProvision(int parent, int text) {
        if (parent != -1 && !statute.hasProvision(parent)) {
            return NO_SUCH_PROVISION;
        }
        if (!isText(text)) {
            return BAD_VALUE;
        }
        long parentPath = parent == -1 ? Paths.ROOT : statute.pathOf(parent);
        if (Paths.levelOf(parentPath) >= DEEPEST_LEVEL) {
            return TOO_DEEP;
        }
        if (statute.original.count >= MAX_ORIGINAL) {
            return FULL;
        }
        int label = statute.original.labelOfNewLastChild(parentPath);
        return label < 0 ? NO_LABEL : statute.createProvision(Paths.childOf(parentPath, label), text);
    }

    public int insertProvision(int provision, int text) {
        if (!statute.hasProvision(provision)) {
            return NO_SUCH_PROVISION;
        }
        if (!isText(text)) {
            return BAD_VALUE;
        }
        if (statute.original.count >= MAX_ORIGINAL) {
            return FULL;
        }
        long siblingPath = statute.pathOf(provision);
        int label = statute.original.labelAfter(siblingPath, Paths.ROOT);
        return label < 0 ? NO_LABEL : statute.createProvision(Paths.siblingOf(siblingPath, label), text);
    }

    public int setText(int provision, int text) {
        int position = statute.original.positionOfOrigin(provision);
        if (position < 0) {
            return NO_SUCH_PROVISION;
        }
        if (!isText(text)) {
            return BAD_VALUE;
        }
        int previous = statute.original.texts[position];
        statute.original.texts[position] = text;
        return previous;
    }

    public int addReference(int provision, int target) {
        if (!statute.hasProvision(provision) || !statute.hasProvision(target)) {
            return NO_SUCH_PROVISION;
        }
        if (statute.referenceCounts[provision] >= MAX_REFERENCES) {
            return FULL;
        }
        statute.targets[provision][statute.referenceCounts[provision]] = target;
        statute.referenceCounts[provision]++;
        return statute.referenceCounts[provision];
    }

    public int clear() {
        int previous = statute.original.count;
        statute.original.count = 0;
        statute.amendments.count = 0;
        shelves.emptyAll();
        return previous;
    }

    public int originalCount() {
        return statute.original.count;
    }

    // ---- amendments

    public int appendCharacter(int character) {
        if (character < 32 || character > 126) {
            return BAD_VALUE;
        }
        if (input.length >= MAX_INPUT) {
            return FULL;
        }
        input.characters[input.length] = character;
        input.length++;
        return input.length;
    }

    public int clearInput() {
        int previous = input.length;
        input.length = 0;
        return previous;
    }

    public int addAmendment(int day) {
        int answer = storeAmendment(day);
        input.length = 0;
        return answer;
    }

    public int amendmentCount() {
        return statute.amendments.count;
    }

    public int instructionCount(int amendment) {
        if (!statute.amendments.has(amendment)) {
            return NO_SUCH_AMENDMENT;
        }
        return statute.amendments.sizes[amendment];
    }

    public int setCommencement(int amendment, int day) {
        if (!statute.amendments.has(amendment)) {
            return NO_SUCH_AMENDMENT;
        }
        if (!isCommencementDay(day)) {
            return NO_SUCH_DAY;
        }
        int previous = statute.amendments.days[amendment];
        statute.amendments.days[amendment] = day;
        return previous;
    }

    public int removeLastAmendment() {
        if (statute.amendments.count == 0) {
            return NONE;
        }
        statute.amendments.count--;
        return statute.amendments.count;
    }

    // ---- versions

    public int provisionCount(int day) {
        if (!version.compute(statute, day)) {
            return NO_SUCH_DAY;
        }
        return version.provisions.count;
    }

    public int levelAt(int day, int index) {
        int refusal = refusalAt(day, index);
        return refusal != ACCEPTED ? refusal : Paths.levelOf(version.provisions.paths[index]);
    }

    public int textAt(int day, int index) {
        int refusal = refusalAt(day, index);
        return refusal != ACCEPTED ? refusal : version.provisions.texts[index];
    }

    public int isRepealedAt(int day, int index) {
        int refusal = refusalAt(day, index);
        if (refusal != ACCEPTED) {
            return refusal;
        }
        return version.provisions.repealed[index] ? 1 : 0;
    }

    public int pathLengthAt(int day, int index) {
        int refusal = refusalAt(day, index);
        return refusal != ACCEPTED ? refusal : Paths.lengthOf(version.provisions.paths[index]);
    }

    public int pathCharacterAt(int day, int index, int position) {
        int refusal = refusalAt(day, index);
        return refusal != ACCEPTED ? refusal : Paths.characterOf(version.provisions.paths[index], position);
    }

    public int originAt(int day, int index) {
        int refusal = refusalAt(day, index);
        return refusal != ACCEPTED ? refusal : version.provisions.origins[index];
    }

    public int creatorAt(int day, int index) {
        int refusal = refusalAt(day, index);
        return refusal != ACCEPTED ? refusal : version.provisions.creators[index];
    }

    public int find(int day) {
        long path = input.readOnlyPath();
        input.length = 0;
        if (!version.compute(statute, day)) {
            return NO_SUCH_DAY;
        }
        if (path == Paths.ROOT) {
            return SYNTAX_ERROR - input.position;
        }
        int position = version.provisions.positionOf(path);
        return position < 0 ? NONE : position;
    }

    public int firstDifference(int day, int other) {
        if (!version.compute(statute, day) || !otherVersion.compute(statute, other)) {
            return NO_SUCH_DAY;
        }
        return version.provisions.firstDifferenceFrom(otherVersion.provisions);
    }

    // ---- references

    public int referenceCountAt(int day, int index) {
        int refusal = refusalAt(day, index);
        return refusal != ACCEPTED ? refusal : statute.referenceCountOf(version.provisions.origins[index]);
    }

    public int referenceAt(int day, int index, int reference) {
        int refusal = refusalAt(day, index);
        if (refusal != ACCEPTED) {
            return refusal;
        }
        int origin = version.provisions.origins[index];
        if (reference < 0 || reference >= statute.referenceCountOf(origin)) {
            return NONE;
        }
        int position = version.provisions.positionInForce(statute.targets[origin][reference]);
        return position < 0 ? DANGLING : position;
    }

    public int danglingCount(int day) {
        if (!version.compute(statute, day)) {
            return NO_SUCH_DAY;
        }
        int dangling = 0;
        for (int position = 0; position < version.provisions.count; position++) {
            if (!version.provisions.repealed[position]) {
                dangling += danglingReferencesOf(version.provisions.origins[position]);
            }
        }
        return dangling;
    }

    // ---- conflicts

    public int conflictCount(int day) {
        if (!version.compute(statute, day)) {
            return NO_SUCH_DAY;
        }
        return version.conflicts;
    }

    public int conflictAmendment(int day, int conflict) {
        if (!version.compute(statute, day)) {
            return NO_SUCH_DAY;
        }
        return version.hasConflict(conflict) ? version.conflictAmendments[conflict] : NONE;
    }

    public int conflictInstruction(int day, int conflict) {
        if (!version.compute(statute, day)) {
            return NO_SUCH_DAY;
        }
        return version.hasConflict(conflict) ? version.conflictInstructions[conflict] : NONE;
    }

    public int conflictReason(int day, int conflict) {
        if (!version.compute(statute, day)) {
            return NO_SUCH_DAY;
        }
        return version.hasConflict(conflict) ? version.conflictReasons[conflict] : NONE;
    }

    public int doCommute(int amendment, int other) {
        if (!statute.amendments.has(amendment) || !statute.amendments.has(other)) {
            return NO_SUCH_AMENDMENT;
        }
        version.computeFromTwo(statute, amendment, other);
        otherVersion.computeFromTwo(statute, other, amendment);
        return version.provisions.isSameResultAs(otherVersion.provisions) ? 1 : 0;
    }

    // ---- figures

    public int averageLevel(int day) {
        if (!version.compute(statute, day)) {
            return NO_SUCH_DAY;
        }
        int levels = 0;
        int inForce = 0;
        for (int position = 0; position < version.provisions.count; position++) {
            if (!version.provisions.repealed[position]) {
                levels += Paths.levelOf(version.provisions.paths[position]);
                inForce++;
            }
        }
        if (inForce == 0) {
            return FLOAT_NAN;
        }
        return (int) quotientBits(levels, inForce, FLOAT_PRECISION, FLOAT_BIAS);
    }

    public long repealedShare(int day) {
        if (!version.compute(statute, day)) {
            return NO_SUCH_DAY;
        }
        int repealed = 0;
        for (int position = 0; position < version.provisions.count; position++) {
            if (version.provisions.repealed[position]) {
                repealed++;
            }
        }
        if (version.provisions.count == 0) {
            return DOUBLE_NAN;
        }
        return quotientBits(repealed, version.provisions.count, DOUBLE_PRECISION, DOUBLE_BIAS);
    }

    // ---- shelves

    public int newShelf(int shelf, int type, int length) {
        if (!isShelf(shelf) || type < ANY_LEVEL || type > DEEPEST_LEVEL || length > MAX_SHELF_LENGTH) {
            return BAD_VALUE;
        }
        if (length < 0) {
            return NEGATIVE_LENGTH;
        }
        shelves.fillWithMissing(shelf, type, length);
        return 1;
    }

    public int place(int shelf, int index, int provision) {
        if (!isShelf(shelf)) {
            return BAD_VALUE;
        }
        if (!statute.hasProvision(provision)) {
            return NO_SUCH_PROVISION;
        }
        int refusal = shelves.refusalOf(shelf, index);
        if (refusal != ACCEPTED) {
            return refusal;
        }
        int type = shelves.types[shelf];
        if (type != ANY_LEVEL && type != Paths.levelOf(statute.pathOf(provision))) {
            return WRONG_TYPE;
        }
        shelves.elements[shelf][index] = provision;
        return 1;
    }

    public int shelved(int shelf, int index) {
        if (!isShelf(shelf)) {
            return BAD_VALUE;
        }
        int refusal = shelves.refusalOf(shelf, index);
        return refusal != ACCEPTED ? refusal : shelves.elements[shelf][index];
    }

    public int copyShelf(int shelf, int to) {
        if (!isShelf(shelf) || !isShelf(to)) {
            return BAD_VALUE;
        }
        if (!shelves.filled[shelf]) {
            return MISSING;
        }
        shelves.copyArray(shelf, to);
        return shelves.lengths[to];
    }

    // ---- snapshot

    public int saveSnapshot() {
        snapshot.copyFrom(statute);
        snapshotSaved = true;
        return statute.original.count;
    }

    public int restoreSnapshot() {
        if (!snapshotSaved) {
            return NONE;
        }
        statute.copyFrom(snapshot);
        shelves.emptyAll();
        return statute.original.count;
    }

    // ---- what several calls share

    private static boolean isText(int text) {
        return text >= 0 && text <= MAX_TEXT;
    }

    private static boolean isCommencementDay(int day) {
        return day >= 0 && day <= LAST_DAY;
    }

    private static boolean isShelf(int shelf) {
        return shelf >= 0 && shelf < SHELVES;
    }

    private int storeAmendment(int day) {
        if (!isCommencementDay(day)) {
            return NO_SUCH_DAY;
        }
        Amendments amendments = statute.amendments;
        int number = amendments.count;
        if (number >= MAX_AMENDMENTS) {
            return FULL;
        }
        // The slots behind the last amendment are free, so a refused input leaves no trace that counts.
        int size = input.readInstructions(amendments, number * MAX_INSTRUCTIONS);
        if (size < 0) {
            return SYNTAX_ERROR - input.position;
        }
        amendments.days[number] = day;
        amendments.sizes[number] = size;
        amendments.count++;
        return number;
    }

    /** Computes the version of a day; returns ACCEPTED if it has the position. */
    private int refusalAt(int day, int index) {
        if (!version.compute(statute, day)) {
            return NO_SUCH_DAY;
        }
        return version.provisions.has(index) ? ACCEPTED : NO_SUCH_POSITION;
    }

    private int danglingReferencesOf(int origin) {
        int dangling = 0;
        int references = statute.referenceCountOf(origin);
        for (int reference = 0; reference < references; reference++) {
            if (version.provisions.positionInForce(statute.targets[origin][reference]) < 0) {
                dangling++;
            }
        }
        return dangling;
    }

    /**
     * The bits of the floating point number next to numerator / denominator, a tie going to the even
     * one. It is done on whole numbers because the library at hand does not tell the bits of a float.
     */
    private static long quotientBits(int numerator, int denominator, int precision, int bias) {
        if (numerator <= 0 || denominator <= 0) {
            return 0;
        }
        long divisor = denominator;
        long scaled = numerator;
        int shift = 0;
        while (shift < 64 && scaled < divisor << (precision - 1)) {
            scaled <<= 1;
            shift++;
        }
        long mantissa = scaled / divisor;
        long twiceRest = 2 * (scaled % divisor);
        if (twiceRest > divisor || (twiceRest == divisor && (mantissa & 1) == 1)) {
            mantissa++;
        }
        // The leading bit of the mantissa is not stored: adding it to the exponent's place counts one there.
        long exponent = precision - 1 - shift + bias;
        return ((exponent - 1) << (precision - 1)) + mantissa;
    }

    /**
     * Labels and paths as numbers. A label is its number and three letters in base 27, so that labels
     * compare as numbers do. A path holds the labels of its three levels, 0 where it has none, so that
     * the order of paths is the document order and the path of a parent begins those of its children.
     */
    private static final class Paths {
        private static final long ROOT = 0;
        private static final int LETTER_BASE = 27;
        private static final int MAX_LETTERS = 3;
        private static final int FIRST_LETTER_UNIT = LETTER_BASE * LETTER_BASE;
        private static final int NUMBER_UNIT = FIRST_LETTER_UNIT * LETTER_BASE;
        private static final int MAX_NUMBER = 99;
        private static final int LABEL_BITS = 21;
        private static final long LABEL_MASK = (1L << LABEL_BITS) - 1;
        private static final long LOWER_MASK = (1L << 2 * LABEL_BITS) - 1;

        private static int labelOfNumber(int number) {
            return number * NUMBER_UNIT;
        }

        private static int numberOf(int label) {
            return label / NUMBER_UNIT;
        }

        /** The letter at a place of the suffix, from 0: 1 for A to 26 for Z, 0 behind the suffix. */
        private static int letterOf(int label, int place) {
            int unit = place == 0 ? FIRST_LETTER_UNIT : place == 1 ? LETTER_BASE : 1;
            return label / unit % LETTER_BASE;
        }

        private static int lettersOf(int label) {
            int letters = 0;
            while (letters < MAX_LETTERS && letterOf(label, letters) != 0) {
                letters++;
            }
            return letters;
        }

        /**
         * The label with the shortest suffix, and the first of these, that comes after a label and
         * before a limit, which is at most the label of the next number without a suffix.
         */
        private static int labelBetween(int label, int limit) {
            for (int unit = FIRST_LETTER_UNIT; unit > 0; unit /= LETTER_BASE) {
                // Past a Z this carries into a shorter suffix, which an earlier round has refused.
                int candidate = label - label % unit + unit;
                if (candidate < limit) {
                    return candidate;
                }
                // Behind the suffix that is one letter longer than the label's, all are beyond the limit too.
                if (label % (unit * LETTER_BASE) == 0) {
                    return NO_LABEL;
                }
            }
            return NO_LABEL;
        }

        private static int levelOf(long path) {
            if ((path & LABEL_MASK) != 0) {
                return DEEPEST_LEVEL;
            }
            if ((path & LOWER_MASK) != 0) {
                return 2;
            }
            return path == ROOT ? 0 : 1;
        }

        private static int labelAt(long path, int level) {
            return (int) ((path >> ((DEEPEST_LEVEL - level) * LABEL_BITS)) & LABEL_MASK);
        }

        private static long withLabel(long path, int level, int label) {
            int shift = (DEEPEST_LEVEL - level) * LABEL_BITS;
            return (path & ~(LABEL_MASK << shift)) | ((long) label << shift);
        }

        private static long childOf(long parent, int label) {
            return withLabel(parent, levelOf(parent) + 1, label);
        }

        private static long siblingOf(long path, int label) {
            return withLabel(path, levelOf(path), label);
        }

        private static long parentOf(long path) {
            if ((path & LABEL_MASK) != 0) {
                return path & ~LABEL_MASK;
            }
            return (path & LOWER_MASK) != 0 ? path & ~LOWER_MASK : ROOT;
        }

        /** The part of a path below a level. */
        private static long tailBelow(long path, int level) {
            return path & ((1L << ((DEEPEST_LEVEL - level) * LABEL_BITS)) - 1);
        }

        /** Whether a path is that of a provision of a level or of one of its descendants. */
        private static boolean isWithin(long path, long provision, int level) {
            int shift = (DEEPEST_LEVEL - level) * LABEL_BITS;
            return path >> shift == provision >> shift;
        }

        private static int digitsOf(int label) {
            return numberOf(label) < 10 ? 1 : 2;
        }

        private static int lengthOf(long path) {
            int level = levelOf(path);
            int length = 0;
            for (int at = 1; at <= level; at++) {
                int label = labelAt(path, at);
                length += digitsOf(label) + lettersOf(label) + (at > 1 ? 2 : 0);
            }
            return length;
        }

        private static int characterOf(long path, int position) {
            if (position < 0) {
                return NONE;
            }
            int level = levelOf(path);
            int left = position;
            for (int at = 1; at <= level; at++) {
                int label = labelAt(path, at);
                int brackets = at > 1 ? 1 : 0;
                int labelEnd = brackets + digitsOf(label) + lettersOf(label);
                if (left < brackets) {
                    return '(';
                }
                if (left < labelEnd) {
                    return characterOfLabel(label, left - brackets);
                }
                if (left < labelEnd + brackets) {
                    return ')';
                }
                left -= labelEnd + brackets;
            }
            return NONE;
        }

        private static int characterOfLabel(int label, int position) {
            int digits = digitsOf(label);
            if (position >= digits) {
                return 'A' - 1 + letterOf(label, position - digits);
            }
            int number = numberOf(label);
            return '0' + (position < digits - 1 ? number / 10 : number % 10);
        }
    }

    /** Provisions in document order: the original text, or a version of it. */
    private static final class Provisions {
        private int count;
        private final long[] paths = new long[MAX_PROVISIONS];
        private final int[] texts = new int[MAX_PROVISIONS];
        private final boolean[] repealed = new boolean[MAX_PROVISIONS];
        private final int[] origins = new int[MAX_PROVISIONS];
        private final int[] creators = new int[MAX_PROVISIONS];

        private void copyFrom(Provisions other) {
            count = Math.min(other.count, MAX_PROVISIONS);
            for (int position = 0; position < count; position++) {
                paths[position] = other.paths[position];
                texts[position] = other.texts[position];
                repealed[position] = other.repealed[position];
                origins[position] = other.origins[position];
                creators[position] = other.creators[position];
            }
        }

        private boolean has(int position) {
            return position >= 0 && position < count;
        }

        private int positionOf(long path) {
            for (int position = 0; position < count; position++) {
                if (paths[position] == path) {
                    return position;
                }
            }
            return NOWHERE;
        }

        private int positionOfOrigin(int origin) {
            // Provisions that an amendment created all bear the negative NONE.
            for (int position = 0; origin >= 0 && position < count; position++) {
                if (origins[position] == origin) {
                    return position;
                }
            }
            return NOWHERE;
        }

        private int positionInForce(int origin) {
            int position = positionOfOrigin(origin);
            return position >= 0 && repealed[position] ? NOWHERE : position;
        }

        private int labelOfNewLastChild(long parent) {
            int level = Paths.levelOf(parent) + 1;
            int greatest = 0;
            for (int position = 0; position < count; position++) {
                if (Paths.parentOf(paths[position]) == parent) {
                    greatest = Math.max(greatest, Paths.numberOf(Paths.labelAt(paths[position], level)));
                }
            }
            return greatest < Paths.MAX_NUMBER ? Paths.labelOfNumber(greatest + 1) : NO_LABEL;
        }

        /**
         * The label of a provision that is placed directly after a sibling. One that is moved has left
         * its place by then and so does not count; for a new one, moved is the root.
         */
        private int labelAfter(long sibling, long moved) {
            int level = Paths.levelOf(sibling);
            int label = Paths.labelAt(sibling, level);
            int limit = Paths.labelOfNumber(Paths.numberOf(label) + 1);
            long parent = Paths.parentOf(sibling);
            for (int position = 0; position < count; position++) {
                long path = paths[position];
                if (path > sibling && path != moved && Paths.parentOf(path) == parent) {
                    limit = Math.min(limit, Paths.labelAt(path, level));
                }
            }
            return Paths.labelBetween(label, limit);
        }

        /** Adds a provision behind all others: its place is found by restoreOrder. */
        private void append(long path, int text, int origin, int creator) {
            if (count >= MAX_PROVISIONS) {
                return;
            }
            paths[count] = path;
            texts[count] = text;
            repealed[count] = false;
            origins[count] = origin;
            creators[count] = creator;
            count++;
        }

        private void repeal(long provision) {
            int level = Paths.levelOf(provision);
            for (int position = 0; position < count; position++) {
                if (Paths.isWithin(paths[position], provision, level)) {
                    repealed[position] = true;
                }
            }
        }

        /** Gives a provision another path, and its descendants with it; restoreOrder finds their places. */
        private void changePath(long from, long to) {
            int level = Paths.levelOf(from);
            for (int position = 0; position < count; position++) {
                if (Paths.isWithin(paths[position], from, level)) {
                    paths[position] = to | Paths.tailBelow(paths[position], level);
                }
            }
        }

        private void renumberChildren(long parent) {
            int level = Paths.levelOf(parent);
            int childLevel = level + 1;
            int number = 0;
            boolean removing = false;
            int kept = 0;
            for (int position = 0; position < count; position++) {
                long path = paths[position];
                if (path != parent && Paths.isWithin(path, parent, level)) {
                    if (Paths.levelOf(path) == childLevel) {
                        removing = repealed[position];
                        number += removing ? 0 : 1;
                    }
                    if (removing) {
                        continue;
                    }
                    paths[position] = Paths.withLabel(path, childLevel, Paths.labelOfNumber(number));
                }
                swap(kept, position);
                kept++;
            }
            count = kept;
        }

        /** Only a few provisions are ever out of place, so that plain insertion is fast enough. */
        private void restoreOrder() {
            for (int next = 1; next < count; next++) {
                for (int place = next; place > 0 && paths[place - 1] > paths[place]; place--) {
                    swap(place - 1, place);
                }
            }
        }

        private void swap(int one, int two) {
            long path = paths[one];
            paths[one] = paths[two];
            paths[two] = path;
            int text = texts[one];
            texts[one] = texts[two];
            texts[two] = text;
            boolean wasRepealed = repealed[one];
            repealed[one] = repealed[two];
            repealed[two] = wasRepealed;
            int origin = origins[one];
            origins[one] = origins[two];
            origins[two] = origin;
            int creator = creators[one];
            creators[one] = creators[two];
            creators[two] = creator;
        }

        private int firstDifferenceFrom(Provisions other) {
            int shared = Math.min(count, other.count);
            for (int position = 0; position < shared; position++) {
                if (differsAt(position, other)) {
                    return position;
                }
            }
            return count == other.count ? NONE : shared;
        }

        private boolean differsAt(int position, Provisions other) {
            return paths[position] != other.paths[position]
                || texts[position] != other.texts[position]
                || repealed[position] != other.repealed[position];
        }

        private boolean isSameResultAs(Provisions other) {
            if (firstDifferenceFrom(other) != NONE) {
                return false;
            }
            for (int position = 0; position < count; position++) {
                if (origins[position] != other.origins[position]) {
                    return false;
                }
            }
            return true;
        }
    }

    /** The stored amendments; the instructions of all of them stand in slots, a block for each. */
    private static final class Amendments {
        private int count;
        private final int[] days = new int[MAX_AMENDMENTS];
        private final int[] sizes = new int[MAX_AMENDMENTS];
        private final int[] kinds = new int[ALL_INSTRUCTIONS];
        private final long[] paths = new long[ALL_INSTRUCTIONS];
        /** The place Q of a move. */
        private final long[] goals = new long[ALL_INSTRUCTIONS];
        private final int[] texts = new int[ALL_INSTRUCTIONS];

        private void copyFrom(Amendments other) {
            count = other.count;
            System.arraycopy(other.days, 0, days, 0, MAX_AMENDMENTS);
            System.arraycopy(other.sizes, 0, sizes, 0, MAX_AMENDMENTS);
            System.arraycopy(other.kinds, 0, kinds, 0, ALL_INSTRUCTIONS);
            System.arraycopy(other.paths, 0, paths, 0, ALL_INSTRUCTIONS);
            System.arraycopy(other.goals, 0, goals, 0, ALL_INSTRUCTIONS);
            System.arraycopy(other.texts, 0, texts, 0, ALL_INSTRUCTIONS);
        }

        private boolean has(int amendment) {
            return amendment >= 0 && amendment < count;
        }

        /** The amendment that is applied next after another one, or first after NOWHERE. */
        private int nextAfter(int amendment) {
            int next = NOWHERE;
            for (int candidate = 0; candidate < count; candidate++) {
                boolean isLater = amendment == NOWHERE || isBefore(amendment, candidate);
                if (isLater && (next == NOWHERE || isBefore(candidate, next))) {
                    next = candidate;
                }
            }
            return next;
        }

        private boolean isBefore(int one, int two) {
            return days[one] < days[two] || (days[one] == days[two] && one < two);
        }
    }

    /** What a snapshot keeps: the original text with its references, and the amendments. */
    private static final class Statute {
        private final Provisions original = new Provisions();
        private final int[] referenceCounts = new int[MAX_ORIGINAL];
        private final int[][] targets = new int[MAX_ORIGINAL][MAX_REFERENCES];
        private final Amendments amendments = new Amendments();

        private void copyFrom(Statute other) {
            original.copyFrom(other.original);
            System.arraycopy(other.referenceCounts, 0, referenceCounts, 0, MAX_ORIGINAL);
            for (int provision = 0; provision < MAX_ORIGINAL; provision++) {
                System.arraycopy(other.targets[provision], 0, targets[provision], 0, MAX_REFERENCES);
            }
            amendments.copyFrom(other.amendments);
        }

        private boolean hasProvision(int provision) {
            return provision >= 0 && provision < original.count && provision < MAX_ORIGINAL;
        }

        private long pathOf(int provision) {
            int position = original.positionOfOrigin(provision);
            return position < 0 ? Paths.ROOT : original.paths[position];
        }

        /** The number of references of an original provision; 0 for one that an amendment created. */
        private int referenceCountOf(int origin) {
            return hasProvision(origin) ? referenceCounts[origin] : 0;
        }

        private int createProvision(long path, int text) {
            int provision = original.count;
            if (provision >= MAX_ORIGINAL) {
                return FULL;
            }
            referenceCounts[provision] = 0;
            original.append(path, text, provision, NONE);
            original.restoreOrder();
            return provision;
        }
    }

    /** The original text after the amendments of a day, with the conflicts on the way there. */
    private static final class Version {
        private final Provisions provisions = new Provisions();
        private int conflicts;
        private final int[] conflictAmendments = new int[ALL_INSTRUCTIONS];
        private final int[] conflictInstructions = new int[ALL_INSTRUCTIONS];
        private final int[] conflictReasons = new int[ALL_INSTRUCTIONS];

        /** Computes the version of a day; returns whether there is such a day. */
        private boolean compute(Statute statute, int day) {
            if (day < ORIGINAL_DAY || day > LAST_DAY) {
                return false;
            }
            start(statute);
            Amendments amendments = statute.amendments;
            int next = amendments.nextAfter(NOWHERE);
            for (int step = 0; step < MAX_AMENDMENTS && next >= 0 && amendments.days[next] <= day; step++) {
                apply(amendments, next);
                next = amendments.nextAfter(next);
            }
            return true;
        }

        private void computeFromTwo(Statute statute, int first, int second) {
            start(statute);
            apply(statute.amendments, first);
            apply(statute.amendments, second);
        }

        private void start(Statute statute) {
            provisions.copyFrom(statute.original);
            conflicts = 0;
        }

        private void apply(Amendments amendments, int amendment) {
            int size = Math.min(amendments.sizes[amendment], MAX_INSTRUCTIONS);
            for (int instruction = 0; instruction < size; instruction++) {
                int slot = amendment * MAX_INSTRUCTIONS + instruction;
                int reason = reasonAgainst(amendments, slot);
                if (reason == APPLIED) {
                    reason = carryOut(amendments, slot, amendment);
                }
                if (reason != APPLIED) {
                    keepConflict(amendment, instruction, reason);
                }
            }
        }

        private boolean hasConflict(int conflict) {
            return conflict >= 0 && conflict < conflicts;
        }

        private void keepConflict(int amendment, int instruction, int reason) {
            if (conflicts >= ALL_INSTRUCTIONS) {
                return;
            }
            conflictAmendments[conflicts] = amendment;
            conflictInstructions[conflicts] = instruction;
            conflictReasons[conflicts] = reason;
            conflicts++;
        }

        /** The first reason but the missing label, which only shows when the label is sought. */
        private int reasonAgainst(Amendments amendments, int slot) {
            int kind = amendments.kinds[slot];
            long path = amendments.paths[slot];
            long goal = kind == MOVE ? amendments.goals[slot] : path;
            int position = provisions.positionOf(path);
            int goalPosition = provisions.positionOf(goal);
            if (position < 0 || goalPosition < 0) {
                return NOT_FOUND;
            }
            if (provisions.repealed[position] || provisions.repealed[goalPosition]) {
                return IS_REPEALED;
            }
            int level = Paths.levelOf(path);
            if (kind == ADD && level == DEEPEST_LEVEL) {
                return WRONG_LEVEL;
            }
            if (kind == MOVE && (level != Paths.levelOf(goal) || path == goal)) {
                return WRONG_LEVEL;
            }
            if ((kind == INSERT || kind == ADD) && provisions.count >= MAX_PROVISIONS) {
                return VERSION_FULL;
            }
            return APPLIED;
        }

        private int carryOut(Amendments amendments, int slot, int amendment) {
            long path = amendments.paths[slot];
            int text = amendments.texts[slot];
            switch (amendments.kinds[slot]) {
                case INSERT:
                    return insertAfter(path, text, amendment);
                case ADD:
                    return addChild(path, text, amendment);
                case REPLACE:
                    return replaceText(path, text);
                case REPEAL:
                    provisions.repeal(path);
                    return APPLIED;
                case MOVE:
                    return moveAfter(path, amendments.goals[slot]);
                default:
                    provisions.renumberChildren(path);
                    return APPLIED;
            }
        }

        private int insertAfter(long sibling, int text, int amendment) {
            int label = provisions.labelAfter(sibling, Paths.ROOT);
            if (label < 0) {
                return WITHOUT_LABEL;
            }
            provisions.append(Paths.siblingOf(sibling, label), text, NONE, amendment);
            provisions.restoreOrder();
            return APPLIED;
        }

        private int addChild(long parent, int text, int amendment) {
            int label = provisions.labelOfNewLastChild(parent);
            if (label < 0) {
                return WITHOUT_LABEL;
            }
            provisions.append(Paths.childOf(parent, label), text, NONE, amendment);
            provisions.restoreOrder();
            return APPLIED;
        }

        private int replaceText(long path, int text) {
            int position = provisions.positionOf(path);
            if (position < 0) {
                return NOT_FOUND;
            }
            provisions.texts[position] = text;
            return APPLIED;
        }

        private int moveAfter(long path, long goal) {
            int label = provisions.labelAfter(goal, path);
            if (label < 0) {
                return WITHOUT_LABEL;
            }
            provisions.changePath(path, Paths.siblingOf(goal, label));
            provisions.restoreOrder();
            return APPLIED;
        }
    }

    /**
     * The input and its reading. Reading takes a character only if a valid input can begin so; where it
     * stops without success, its position is therefore the error position.
     */
    private static final class Input {
        private static final int END = -1;
        private static final int NO_NUMBER = -1;
        private static final int NO_KIND = -1;
        private static final int NO_INSTRUCTIONS = -1;
        private static final int MAX_DIGITS = 4;

        private final int[] characters = new int[MAX_INPUT];
        private int length;
        private int position;

        /** Reads instructions into slots from the first one on; returns how many, or NO_INSTRUCTIONS. */
        private int readInstructions(Amendments into, int firstSlot) {
            position = 0;
            for (int size = 0; size < MAX_INSTRUCTIONS; size++) {
                if (!readInstruction(into, firstSlot + size)) {
                    return NO_INSTRUCTIONS;
                }
                if (peek() == END) {
                    return size + 1;
                }
                if (!take(';')) {
                    return NO_INSTRUCTIONS;
                }
            }
            return NO_INSTRUCTIONS;
        }

        private boolean readInstruction(Amendments into, int slot) {
            int kind = readKind();
            if (kind == NO_KIND || !take(' ')) {
                return false;
            }
            long path = readPath();
            if (path == Paths.ROOT) {
                return false;
            }
            into.kinds[slot] = kind;
            into.paths[slot] = path;
            into.goals[slot] = Paths.ROOT;
            into.texts[slot] = 0;
            if (kind == REPEAL || kind == RENUMBER) {
                return true;
            }
            if (!take(' ')) {
                return false;
            }
            if (kind == MOVE) {
                into.goals[slot] = readPath();
                return into.goals[slot] != Paths.ROOT;
            }
            into.texts[slot] = readText();
            return into.texts[slot] != NO_NUMBER;
        }

        /** Reads the whole input as one path; returns the root if it is none. */
        private long readOnlyPath() {
            position = 0;
            long path = readPath();
            return peek() == END ? path : Paths.ROOT;
        }

        private int peek() {
            return position >= 0 && position < length ? characters[position] : END;
        }

        private boolean take(int character) {
            if (peek() != character) {
                return false;
            }
            position++;
            return true;
        }

        private boolean isNextBetween(int first, int last) {
            return peek() >= first && peek() <= last;
        }

        private int readKind() {
            int longest = 0;
            for (int kind = 0; kind < KINDS; kind++) {
                String word = wordOf(kind);
                int matching = matchingLength(word);
                if (matching == word.length()) {
                    position += matching;
                    return kind;
                }
                longest = Math.max(longest, matching);
            }
            position += longest;
            return NO_KIND;
        }

        private static String wordOf(int kind) {
            switch (kind) {
                case INSERT:
                    return "insert";
                case ADD:
                    return "add";
                case REPLACE:
                    return "replace";
                case REPEAL:
                    return "repeal";
                case MOVE:
                    return "move";
                default:
                    return "renumber";
            }
        }

        private int matchingLength(String word) {
            int most = Math.min(word.length(), length - position);
            int matching = 0;
            while (matching < most && characters[position + matching] == word.charAt(matching)) {
                matching++;
            }
            return matching;
        }

        /** Reads a path; returns the root, which no path is, if there is none. */
        private long readPath() {
            int label = readLabel();
            if (label == 0) {
                return Paths.ROOT;
            }
            long path = Paths.childOf(Paths.ROOT, label);
            for (int level = 2; level <= DEEPEST_LEVEL && take('('); level++) {
                label = readLabel();
                if (label == 0 || !take(')')) {
                    return Paths.ROOT;
                }
                path = Paths.childOf(path, label);
            }
            return path;
        }

        /** Reads a label; returns 0, which no label is, if there is none. */
        private int readLabel() {
            if (!isNextBetween('1', '9')) {
                return 0;
            }
            int number = takeDigit();
            if (isNextBetween('0', '9')) {
                number = number * 10 + takeDigit();
            }
            int label = Paths.labelOfNumber(number);
            int unit = Paths.FIRST_LETTER_UNIT;
            for (int letters = 0; letters < Paths.MAX_LETTERS && isNextBetween('A', 'Z'); letters++) {
                label += (peek() - 'A' + 1) * unit;
                unit /= Paths.LETTER_BASE;
                position++;
            }
            return label;
        }

        private int readText() {
            if (!isNextBetween('0', '9')) {
                return NO_NUMBER;
            }
            int number = 0;
            for (int digits = 0; digits < MAX_DIGITS && isNextBetween('0', '9'); digits++) {
                number = number * 10 + takeDigit();
            }
            return number;
        }

        private int takeDigit() {
            int digit = peek() - '0';
            position++;
            return digit;
        }
    }

    /** The shelves, each with room for the longest array. */
    private static final class Shelves {
        private final boolean[] filled = new boolean[SHELVES];
        private final int[] types = new int[SHELVES];
        private final int[] lengths = new int[SHELVES];
        private final int[][] elements = new int[SHELVES][MAX_SHELF_LENGTH];

        private void emptyAll() {
            for (int shelf = 0; shelf < SHELVES; shelf++) {
                filled[shelf] = false;
            }
        }

        private int refusalOf(int shelf, int index) {
            if (!filled[shelf]) {
                return MISSING;
            }
            return index >= 0 && index < lengths[shelf] ? ACCEPTED : INDEX_OUT_OF_RANGE;
        }

        private void fillWithMissing(int shelf, int type, int length) {
            filled[shelf] = true;
            types[shelf] = type;
            lengths[shelf] = length;
            for (int index = 0; index < MAX_SHELF_LENGTH; index++) {
                elements[shelf][index] = MISSING;
            }
        }

        private void copyArray(int from, int to) {
            filled[to] = filled[from];
            types[to] = types[from];
            lengths[to] = lengths[from];
            System.arraycopy(elements[from], 0, elements[to], 0, MAX_SHELF_LENGTH);
        }
    }
}
