/**
 * For each promise of the document calls whose answers the document's words fix: ordinary inputs, the
 * edges that it names, wrong inputs, and the order in which errors are checked.
 */
public final class PromiseTests {
    private static final int MIN = Integer.MIN_VALUE;
    private static final int MAX = Integer.MAX_VALUE;

    private static int wrong = 0;
    private static int checked = 0;
    private static int promise = 0;

    private static void due(String what, long got, long want) {
        checked++;
        if (got != want) {
            wrong++;
            System.out.println("promise " + promise + ": " + what + " answered " + got + ", due is " + want);
        }
    }

    private static void due(String what, String got, String want) {
        checked++;
        if (!got.equals(want)) {
            wrong++;
            System.out.println("promise " + promise + ": " + what + " is '" + got + "', due is '" + want + "'");
        }
    }

    public static void main(String[] args) {
        newObject();
        addProvision();
        insertProvision();
        insertProvisionSuffixes();
        setText();
        addReference();
        clear();
        originalCount();
        appendCharacter();
        clearInput();
        addAmendment();
        addAmendmentSyntax();
        amendmentCount();
        instructionCount();
        setCommencement();
        removeLastAmendment();
        provisionCount();
        levelAt();
        textAt();
        isRepealedAt();
        pathLengthAt();
        pathCharacterAt();
        originAt();
        creatorAt();
        find();
        firstDifference();
        referenceCountAt();
        referenceAt();
        danglingCount();
        conflictCount();
        conflictAmendment();
        conflictInstruction();
        conflictReason();
        conflictReasonFullVersion();
        doCommute();
        averageLevel();
        repealedShare();
        newShelf();
        place();
        shelved();
        copyShelf();
        saveSnapshot();
        restoreSnapshot();
        instructionsInVersions();
        orderOfAmendments();
        examples();
        System.out.println(wrong == 0 ? checked + " answers are as due" : wrong + " answers are not as due");
        if (wrong != 0) {
            System.exit(1);
        }
    }

    // ---- helpers

    private static void type(StatuteConsolidator x, String text) {
        for (int at = 0; at < text.length(); at++) {
            x.appendCharacter(text.charAt(at));
        }
    }

    private static int amend(StatuteConsolidator x, int day, String text) {
        x.clearInput();
        type(x, text);
        return x.addAmendment(day);
    }

    private static int look(StatuteConsolidator x, int day, String path) {
        x.clearInput();
        type(x, path);
        return x.find(day);
    }

    private static String path(StatuteConsolidator x, int day, int index) {
        StringBuilder path = new StringBuilder();
        int length = x.pathLengthAt(day, index);
        for (int at = 0; at < length; at++) {
            path.append((char) x.pathCharacterAt(day, index, at));
        }
        return path.toString();
    }

    /** All provisions of a version as path:text, with a sign behind the repealed ones. */
    private static String whole(StatuteConsolidator x, int day) {
        StringBuilder whole = new StringBuilder();
        for (int index = 0; index < x.provisionCount(day); index++) {
            whole.append(index == 0 ? "" : " ").append(path(x, day, index)).append(':').append(x.textAt(day, index));
            whole.append(x.isRepealedAt(day, index) == 1 ? "-" : "");
        }
        return whole.toString();
    }

    /** Sections 1 and 2, 1(1), 1(2) and 1(1)(1): the identifiers are 0 to 4, the texts 10 to 14. */
    private static StatuteConsolidator small() {
        StatuteConsolidator x = new StatuteConsolidator();
        x.addProvision(-1, 10);
        x.addProvision(-1, 11);
        x.addProvision(0, 12);
        x.addProvision(0, 13);
        x.addProvision(2, 14);
        return x;
    }

    private static StatuteConsolidator sections(int count) {
        StatuteConsolidator x = new StatuteConsolidator();
        for (int at = 0; at < count; at++) {
            x.addProvision(-1, at);
        }
        return x;
    }

    // ---- the promises

    private static void newObject() {
        promise = 1;
        StatuteConsolidator x = new StatuteConsolidator();
        due("originalCount()", x.originalCount(), 0);
        due("amendmentCount()", x.amendmentCount(), 0);
        due("clearInput()", x.clearInput(), 0);
        for (int shelf = 0; shelf < 3; shelf++) {
            due("shelved(" + shelf + ", 0)", x.shelved(shelf, 0), -11);
            due("copyShelf(" + shelf + ", 0)", x.copyShelf(shelf, 0), -11);
        }
        due("provisionCount(-1)", x.provisionCount(-1), 0);
        due("provisionCount(9999)", x.provisionCount(9999), 0);
        due("restoreSnapshot()", x.restoreSnapshot(), -9);
        StatuteConsolidator y = new StatuteConsolidator();
        y.addProvision(-1, 1);
        due("originalCount() of another object", x.originalCount(), 0);
    }

    private static void addProvision() {
        promise = 2;
        StatuteConsolidator x = new StatuteConsolidator();
        due("parent 0 of none", x.addProvision(0, 1), -1);
        due("parent -2", x.addProvision(-2, 1), -1);
        due("parent MIN", x.addProvision(MIN, 1), -1);
        due("parent before text", x.addProvision(7, -1), -1);
        due("text -1", x.addProvision(-1, -1), -5);
        due("text 10000", x.addProvision(-1, 10000), -5);
        due("text MAX", x.addProvision(-1, MAX), -5);
        due("count after refusals", x.originalCount(), 0);
        due("text 0", x.addProvision(-1, 0), 0);
        due("text 9999", x.addProvision(-1, 9999), 1);
        due("child", x.addProvision(0, 3), 2);
        due("grandchild", x.addProvision(2, 4), 3);
        due("too deep", x.addProvision(3, 5), -8);
        due("text before depth", x.addProvision(3, 10000), -5);
        due("parent MAX", x.addProvision(MAX, 1), -1);
        due("parent that is the count", x.addProvision(4, 1), -1);
        due("second child", x.addProvision(0, 6), 4);
        due("whole", whole(x, -1), "1:0 1(1):3 1(1)(1):4 1(2):6 2:9999");
        for (int id = 5; id < 30; id++) {
            due("section", x.addProvision(-1, id), id);
        }
        due("full", x.addProvision(-1, 1), -6);
        due("depth before full", x.addProvision(3, 1), -8);
        due("text before full", x.addProvision(-1, 10000), -5);
        due("parent before full", x.addProvision(30, 1), -1);
        due("last path", path(x, -1, 29), "27");
        due("count", x.originalCount(), 30);
        numberAfterSuffix();
    }

    private static void numberAfterSuffix() {
        StatuteConsolidator x = sections(2);
        x.insertProvision(1, 5);
        due("after 2A", x.addProvision(-1, 6), 3);
        due("whole", whole(x, -1), "1:0 2:1 2A:5 3:6");
    }

    private static void insertProvision() {
        promise = 3;
        StatuteConsolidator x = new StatuteConsolidator();
        due("nothing there", x.insertProvision(0, 1), -1);
        due("-1", x.insertProvision(-1, 1), -1);
        due("identifier before text", x.insertProvision(-1, -1), -1);
        x = small();
        due("MIN", x.insertProvision(MIN, 0), -1);
        due("MAX", x.insertProvision(MAX, 0), -1);
        due("text -1", x.insertProvision(0, -1), -5);
        due("text 10000", x.insertProvision(0, 10000), -5);
        due("after section 1", x.insertProvision(0, 9999), 5);
        due("after paragraph", x.insertProvision(4, 0), 6);
        due("after 1 again", x.insertProvision(0, 3), -7);
        due("count", x.originalCount(), 7);
        due("whole", whole(x, -1), "1:10 1(1):12 1(1)(1):14 1(1)(1A):0 1(2):13 1A:9999 2:11");
        x = sections(29);
        due("the thirtieth", x.insertProvision(28, 1), 29);
        due("full", x.insertProvision(3, 1), -6);
        due("full before label", x.insertProvision(28, 1), -6);
        due("text before full", x.insertProvision(28, 10000), -5);
        due("identifier before full", x.insertProvision(30, 1), -1);
    }

    /** New labels: the shortest suffix between two, and the first of these. */
    private static void insertProvisionSuffixes() {
        promise = 3;
        StatuteConsolidator x = sections(2);
        x.insertProvision(0, 2);
        due("after 1A", x.insertProvision(2, 3), 3);
        due("after 1A and before 1B", x.insertProvision(2, 4), 4);
        due("after 1AA and before 1B", x.insertProvision(4, 5), 5);
        due("after 1AA and before 1AB", x.insertProvision(4, 6), 6);
        due("after 1AA and before 1AAA", x.insertProvision(4, 7), -7);
        due("after 1A and before 1AA", x.insertProvision(2, 7), -7);
        due("after 1AAA and before 1AB", x.insertProvision(6, 8), 7);
        due("after 1AAA and before 1AAB", x.insertProvision(6, 9), -7);
        due("whole", whole(x, -1), "1:0 1A:2 1AA:4 1AAA:6 1AAB:8 1AB:5 1B:3 2:1");
        x = sections(1);
        int last = 0;
        for (int letter = 0; letter < 26; letter++) {
            last = x.insertProvision(last, 1);
        }
        due("path of the last letter", path(x, -1, 26), "1Z");
        int longer = x.insertProvision(last, 2);
        due("after 1Z", path(x, -1, 27), "1ZA");
        due("after 1Z and before 1ZA", x.insertProvision(last, 2), -7);
        int next = x.insertProvision(longer, 3);
        due("after 1ZA", path(x, -1, 28), "1ZB");
        due("identifier", next, 28);
        due("after 1ZA and before 1ZB", x.insertProvision(longer, 3), 29);
        due("its path", path(x, -1, 28), "1ZAA");
    }

    private static void setText() {
        promise = 4;
        StatuteConsolidator x = small();
        due("provision 5", x.setText(5, 1), -1);
        due("provision -1", x.setText(-1, 1), -1);
        due("provision NONE", x.setText(-9, 1), -1);
        due("provision MAX", x.setText(MAX, 1), -1);
        due("provision before text", x.setText(5, 10000), -1);
        due("text -1", x.setText(4, -1), -5);
        due("text 10000", x.setText(4, 10000), -5);
        due("first change", x.setText(4, 9999), 14);
        due("second change", x.setText(4, 0), 9999);
        due("third change", x.setText(4, 7), 0);
        due("the first one", x.setText(0, 8), 10);
        due("whole", whole(x, -1), "1:8 1(1):12 1(1)(1):7 1(2):13 2:11");
        x.clear();
        x.addProvision(-1, 1);
        for (int provision = 1; provision < 5; provision++) {
            due("one that was cleared", x.setText(provision, 1), -1);
        }
    }

    private static void addReference() {
        promise = 5;
        StatuteConsolidator x = small();
        due("provision 5", x.addReference(5, 0), -1);
        due("target 5", x.addReference(0, 5), -1);
        due("provision -1", x.addReference(-1, 0), -1);
        due("target -1", x.addReference(0, -1), -1);
        due("MIN, MAX", x.addReference(MIN, MAX), -1);
        due("first", x.addReference(0, 4), 1);
        due("to itself", x.addReference(0, 0), 2);
        due("again", x.addReference(0, 4), 3);
        due("fourth", x.addReference(0, 1), 4);
        due("fifth", x.addReference(0, 1), -6);
        due("missing target before full", x.addReference(0, 9), -1);
        due("of another", x.addReference(4, 0), 1);
        due("count", x.referenceCountAt(-1, 0), 4);
        due("leads", x.referenceAt(-1, 0, 0) * 1000 + x.referenceAt(-1, 0, 1) * 100
            + x.referenceAt(-1, 0, 2) * 10 + x.referenceAt(-1, 0, 3), 2024);
    }

    private static void clear() {
        promise = 6;
        StatuteConsolidator x = small();
        x.addReference(0, 1);
        amend(x, 3, "repeal 1");
        x.newShelf(0, 0, 2);
        x.newShelf(2, 0, 2);
        type(x, "abc");
        due("clear()", x.clear(), 5);
        due("originalCount()", x.originalCount(), 0);
        due("amendmentCount()", x.amendmentCount(), 0);
        due("shelved(0, 0)", x.shelved(0, 0), -11);
        due("copyShelf(2, 1)", x.copyShelf(2, 1), -11);
        due("the input stays", x.clearInput(), 3);
        due("clear() again", x.clear(), 0);
        due("identifiers begin anew", x.addProvision(-1, 1), 0);
        due("no old reference", x.referenceCountAt(-1, 0), 0);
        due("first reference", x.addReference(0, 0), 1);
        due("no old child", x.provisionCount(-1), 1);
    }

    private static void originalCount() {
        promise = 7;
        StatuteConsolidator x = small();
        due("small", x.originalCount(), 5);
        amend(x, 0, "add 1 1;add 1 1");
        due("amendments do not count", x.originalCount(), 5);
        due("full", sections(35).originalCount(), 30);
    }

    private static void appendCharacter() {
        promise = 8;
        StatuteConsolidator x = new StatuteConsolidator();
        due("31", x.appendCharacter(31), -5);
        due("127", x.appendCharacter(127), -5);
        due("MIN", x.appendCharacter(MIN), -5);
        due("MAX", x.appendCharacter(MAX), -5);
        due("32", x.appendCharacter(32), 1);
        due("126", x.appendCharacter(126), 2);
        for (int length = 3; length <= 120; length++) {
            due("length", x.appendCharacter('a'), length);
        }
        due("full", x.appendCharacter('a'), -6);
        due("value before full", x.appendCharacter(127), -5);
        due("length stays", x.clearInput(), 120);
        due("after clearing", x.appendCharacter('a'), 1);
    }

    private static void clearInput() {
        promise = 9;
        StatuteConsolidator x = sections(1);
        type(x, "12");
        due("clearInput()", x.clearInput(), 2);
        due("clearInput() again", x.clearInput(), 0);
        type(x, "1");
        due("the new input alone", x.find(-1), 0);
    }

    private static void addAmendment() {
        promise = 10;
        StatuteConsolidator x = small();
        due("day -1", amend(x, -1, "repeal 1"), -4);
        due("input after it", x.clearInput(), 0);
        due("day 10000", amend(x, 10000, "repeal 1"), -4);
        due("day before syntax", amend(x, MIN, "x"), -4);
        due("syntax", amend(x, 0, "x"), -1000);
        due("input after it", x.clearInput(), 0);
        due("nothing stored", x.amendmentCount(), 0);
        due("day 0", amend(x, 0, "repeal 1"), 0);
        due("input after it", x.clearInput(), 0);
        due("day 9999", amend(x, 9999, "repeal 1"), 1);
        for (int number = 2; number < 8; number++) {
            due("number", amend(x, 5, "renumber 2"), number);
        }
        due("full", amend(x, 5, "renumber 2"), -6);
        due("input after it", x.clearInput(), 0);
        due("full before syntax", amend(x, 5, "x"), -6);
        due("day before full", amend(x, 10000, "renumber 2"), -4);
        due("count", x.amendmentCount(), 8);
        x = small();
        due("fifteen instructions", amend(x, 0, "add 1 1" + ";add 1 1".repeat(14)), 0);
        due("their number", x.instructionCount(0), 15);
        due("what they did", x.provisionCount(0), 20);
    }

    private static void syntax(String text, int position) {
        due("addAmendment of '" + text + "'", amend(new StatuteConsolidator(), 0, text), -1000 - position);
    }

    private static void valid(String text) {
        due("addAmendment of '" + text + "'", amend(new StatuteConsolidator(), 0, text), 0);
    }

    private static void addAmendmentSyntax() {
        promise = 10;
        StatuteConsolidator x = new StatuteConsolidator();
        amend(x, 0, "repeal 1");
        due("after a longer input", amend(x, 0, "rep"), -1003);
        due("after a longer input", amend(x, 0, "repeal"), -1006);
        amend(x, 0, "repeal 1;repeal 2");
        due("after a longer input", amend(x, 0, "repeal 1;rep"), -1012);
        valid("insert 1 0");
        valid("add 99ZZZ(99ZZZ)(99ZZZ) 9999");
        valid("replace 10A(1) 0000");
        valid("repeal 1(2)(3B)");
        valid("move 1 1");
        valid("renumber 1;repeal 2;move 1(1)(1) 2");
        syntax("", 0);
        syntax(" ", 0);
        syntax(";", 0);
        syntax("Add 1 1", 0);
        syntax("i", 1);
        syntax("re", 2);
        syntax("rex", 2);
        syntax("rep", 3);
        syntax("repx", 3);
        syntax("renu 1", 4);
        syntax("repla", 5);
        syntax("replx", 4);
        syntax("repeat", 5);
        syntax("repeal", 6);
        syntax("repeals", 6);
        syntax("repeal ", 7);
        syntax("repeal  1", 7);
        syntax("repeal 0", 7);
        syntax("repeal (1)", 7);
        syntax("repeal A", 7);
        syntax("repeal 100", 9);
        syntax("repeal 1a", 8);
        syntax("repeal 1ABCD", 11);
        syntax("repeal 1A2", 9);
        syntax("repeal 1 ", 8);
        syntax("repeal 1 2", 8);
        syntax("repeal 1(", 9);
        syntax("repeal 1()", 9);
        syntax("repeal 1(0)", 9);
        syntax("repeal 1(1", 10);
        syntax("repeal 1(1;", 10);
        syntax("repeal 1)", 8);
        syntax("repeal 1(1)A", 11);
        syntax("repeal 1(1)(1)(", 14);
        syntax("repeal 1(1)(1)A", 14);
        syntax("repeal 1;", 9);
        syntax("repeal 1;;", 9);
        syntax("repeal 1; repeal 2", 9);
        syntax("repeal 1 ;repeal 2", 8);
        syntax("repeal 1;rex", 11);
        syntax("add 1", 5);
        syntax("add 1;", 5);
        syntax("add 1 ", 6);
        syntax("add 1  1", 6);
        syntax("add 1 A", 6);
        syntax("add 1 -1", 6);
        syntax("add 1 12345", 10);
        syntax("add 1 1 ", 7);
        syntax("add 1 1A", 7);
        syntax("add 1 1(", 7);
        syntax("move 1", 6);
        syntax("move 1;", 6);
        syntax("move 1 ", 7);
        syntax("move 1 0", 7);
        syntax("move 1 2 3", 8);
        syntax("move 1 123", 9);
        syntax("insert 1A(2) 1;movw", 18);
    }

    private static void amendmentCount() {
        promise = 11;
        StatuteConsolidator x = new StatuteConsolidator();
        due("none", x.amendmentCount(), 0);
        amend(x, 0, "repeal 1;repeal 2");
        due("one", x.amendmentCount(), 1);
        amend(x, 0, "repeal 1;");
        due("a refused one", x.amendmentCount(), 1);
        for (int number = 1; number < 10; number++) {
            amend(x, 0, "repeal 1");
        }
        due("eight", x.amendmentCount(), 8);
    }

    private static void instructionCount() {
        promise = 12;
        StatuteConsolidator x = new StatuteConsolidator();
        due("none there", x.instructionCount(0), -3);
        amend(x, 0, "repeal 1");
        amend(x, 0, "repeal 1;move 1 2;add 1 1");
        due("number 0", x.instructionCount(0), 1);
        due("number 1", x.instructionCount(1), 3);
        due("number 2", x.instructionCount(2), -3);
        due("number -1", x.instructionCount(-1), -3);
        due("number MIN", x.instructionCount(MIN), -3);
        due("number MAX", x.instructionCount(MAX), -3);
        x.removeLastAmendment();
        due("a removed one", x.instructionCount(1), -3);
    }

    private static void setCommencement() {
        promise = 13;
        StatuteConsolidator x = small();
        due("none there", x.setCommencement(0, 5), -3);
        due("amendment before day", x.setCommencement(0, -1), -3);
        amend(x, 7, "replace 1 5");
        due("number -1", x.setCommencement(-1, 5), -3);
        due("number MAX", x.setCommencement(MAX, 5), -3);
        due("day -1", x.setCommencement(0, -1), -4);
        due("day 10000", x.setCommencement(0, 10000), -4);
        due("before", x.textAt(6, 0), 10);
        due("to 9999", x.setCommencement(0, 9999), 7);
        due("no longer on day 7", x.textAt(7, 0), 10);
        due("on day 9999", x.textAt(9999, 0), 5);
        due("to 0", x.setCommencement(0, 0), 9999);
        due("on day 0", x.textAt(0, 0), 5);
        due("the same day again", x.setCommencement(0, 0), 0);
    }

    private static void removeLastAmendment() {
        promise = 14;
        StatuteConsolidator x = small();
        due("none", x.removeLastAmendment(), -9);
        amend(x, 5, "replace 1 5");
        amend(x, 1, "replace 1 6");
        due("the greatest number, not the latest day", x.removeLastAmendment(), 1);
        due("what remains", x.textAt(9, 0), 5);
        due("the other one", x.removeLastAmendment(), 0);
        due("the text", x.textAt(9, 0), 10);
        due("none again", x.removeLastAmendment(), -9);
        due("numbers begin anew", amend(x, 1, "add 1 1"), 0);
    }

    private static void provisionCount() {
        promise = 15;
        StatuteConsolidator x = small();
        amend(x, 2, "add 1 1;repeal 1(1)");
        amend(x, 4, "renumber 1");
        due("day -2", x.provisionCount(-2), -4);
        due("day 10000", x.provisionCount(10000), -4);
        due("day MIN", x.provisionCount(MIN), -4);
        due("day -1", x.provisionCount(-1), 5);
        due("day 1", x.provisionCount(1), 5);
        due("repealed ones included", x.provisionCount(2), 6);
        due("removed with the child of the repealed one", x.provisionCount(4), 4);
        due("day 9999", x.provisionCount(9999), 4);
    }

    private static void levelAt() {
        promise = 16;
        StatuteConsolidator x = small();
        due("day -2", x.levelAt(-2, 0), -4);
        due("day before position", x.levelAt(10000, -1), -4);
        due("position -1", x.levelAt(-1, -1), -2);
        due("position 5", x.levelAt(0, 5), -2);
        due("position MAX", x.levelAt(0, MAX), -2);
        due("1", x.levelAt(-1, 0), 1);
        due("1(1)", x.levelAt(-1, 1), 2);
        due("1(1)(1)", x.levelAt(-1, 2), 3);
        due("1(2)", x.levelAt(9999, 3), 2);
        due("2", x.levelAt(0, 4), 1);
    }

    private static void textAt() {
        promise = 17;
        StatuteConsolidator x = small();
        amend(x, 3, "replace 1(1)(1) 0042;insert 2 9999");
        due("day -2", x.textAt(-2, 0), -4);
        due("day before position", x.textAt(10000, 99), -4);
        due("position -1", x.textAt(-1, -1), -2);
        due("position 5 on day 2", x.textAt(2, 5), -2);
        due("before", x.textAt(2, 2), 14);
        due("after", x.textAt(3, 2), 42);
        due("inserted", x.textAt(3, 5), 9999);
        due("the original stays", x.textAt(-1, 2), 14);
    }

    private static void isRepealedAt() {
        promise = 18;
        StatuteConsolidator x = small();
        amend(x, 3, "repeal 1(1)");
        due("day -2", x.isRepealedAt(-2, 0), -4);
        due("day before position", x.isRepealedAt(10000, 99), -4);
        due("position -1", x.isRepealedAt(3, -1), -2);
        due("position 5", x.isRepealedAt(3, 5), -2);
        due("before", x.isRepealedAt(2, 1), 0);
        due("1", x.isRepealedAt(3, 0), 0);
        due("1(1)", x.isRepealedAt(3, 1), 1);
        due("1(1)(1)", x.isRepealedAt(3, 2), 1);
        due("1(2)", x.isRepealedAt(3, 3), 0);
    }

    private static void pathLengthAt() {
        promise = 19;
        StatuteConsolidator x = sections(12);
        int child = x.addProvision(x.insertProvision(11, 1), 2);
        x.addProvision(x.insertProvision(child, 3), 4);
        due("day -2", x.pathLengthAt(-2, 0), -4);
        due("day before position", x.pathLengthAt(10000, 99), -4);
        due("position -1", x.pathLengthAt(0, -1), -2);
        due("position 16", x.pathLengthAt(0, 16), -2);
        due("9", x.pathLengthAt(0, 8), 1);
        due("10", x.pathLengthAt(0, 9), 2);
        due("12A", x.pathLengthAt(0, 12), 3);
        due("12A(1)", x.pathLengthAt(0, 13), 6);
        due("12A(1A)", x.pathLengthAt(0, 14), 7);
        due("12A(1A)(1)", x.pathLengthAt(0, 15), 10);
    }

    private static void pathCharacterAt() {
        promise = 20;
        StatuteConsolidator x = sections(12);
        int child = x.addProvision(x.insertProvision(11, 1), 2);
        x.addProvision(x.insertProvision(child, 3), 4);
        due("day before all", x.pathCharacterAt(-2, 99, 99), -4);
        due("position in the version before that in the path", x.pathCharacterAt(-1, 16, 99), -2);
        due("position in the version -1", x.pathCharacterAt(-1, -1, 0), -2);
        due("position in the path -1", x.pathCharacterAt(-1, 0, -1), -9);
        due("position in the path MIN", x.pathCharacterAt(-1, 0, MIN), -9);
        due("position in the path 1", x.pathCharacterAt(-1, 0, 1), -9);
        due("position in the path MAX", x.pathCharacterAt(-1, 15, MAX), -9);
        due("position in the path 10", x.pathCharacterAt(-1, 15, 10), -9);
        due("9", path(x, -1, 8), "9");
        due("10", path(x, -1, 9), "10");
        due("12A", path(x, -1, 12), "12A");
        due("12A(1)", path(x, -1, 13), "12A(1)");
        due("12A(1A)(1)", path(x, -1, 15), "12A(1A)(1)");
    }

    private static void originAt() {
        promise = 21;
        StatuteConsolidator x = small();
        amend(x, 3, "insert 1 1;move 1(1) 1(2)");
        due("day -2", x.originAt(-2, 0), -4);
        due("day before position", x.originAt(10000, 99), -4);
        due("position -1", x.originAt(3, -1), -2);
        due("position 6", x.originAt(3, 6), -2);
        due("1 of the original", x.originAt(-1, 0), 0);
        due("1(1) of the original", x.originAt(-1, 1), 2);
        due("2 of the original", x.originAt(-1, 4), 1);
        due("moved 1(2A)", x.originAt(3, 2), 2);
        due("moved 1(2A)(1)", x.originAt(3, 3), 4);
        due("created 1A", x.originAt(3, 4), -9);
        due("2", x.originAt(3, 5), 1);
    }

    private static void creatorAt() {
        promise = 22;
        StatuteConsolidator x = small();
        amend(x, 5, "insert 1 1");
        amend(x, 3, "add 1 1;move 1(3) 1(1)");
        due("day -2", x.creatorAt(-2, 0), -4);
        due("day before position", x.creatorAt(10000, 99), -4);
        due("position -1", x.creatorAt(3, -1), -2);
        due("position 6 on day 3", x.creatorAt(3, 6), -2);
        due("original", x.creatorAt(-1, 0), -9);
        due("original on day 5", x.creatorAt(5, 0), -9);
        due("1(1A), moved by its creator", x.creatorAt(5, 3), 1);
        due("1A", x.creatorAt(5, 5), 0);
        x = small();
        amend(x, 1, "insert 2 1");
        amend(x, 2, "insert 1 1");
        due("1A before 2A", x.creatorAt(2, 4), 1);
        due("2 between them", x.creatorAt(2, 5), -9);
        due("2A", x.creatorAt(2, 6), 0);
    }

    private static void lookDue(StatuteConsolidator x, int day, String path, int want) {
        due("find(" + day + ") of '" + path + "'", look(x, day, path), want);
        due("input after it", x.clearInput(), 0);
    }

    private static void find() {
        promise = 23;
        StatuteConsolidator x = small();
        amend(x, 3, "insert 1 1;repeal 2");
        lookDue(x, -2, "1", -4);
        lookDue(x, 10000, "x", -4);
        lookDue(x, -1, "1", 0);
        lookDue(x, -1, "1(1)", 1);
        lookDue(x, -1, "1(1)(1)", 2);
        lookDue(x, -1, "2", 4);
        lookDue(x, 3, "1A", 4);
        lookDue(x, 2, "1A", -9);
        lookDue(x, 3, "2", 5);
        lookDue(x, 3, "99ZZZ(99ZZZ)(99ZZZ)", -9);
        lookDue(x, 3, "2(1)", -9);
        lookDue(x, 3, "", -1000);
        lookDue(x, 3, "0", -1000);
        lookDue(x, 3, "01", -1000);
        lookDue(x, 3, "A", -1000);
        lookDue(x, 3, "(1)", -1000);
        lookDue(x, 3, " 1", -1000);
        lookDue(x, 3, "1 ", -1001);
        lookDue(x, 3, "1;", -1001);
        lookDue(x, 3, "123", -1002);
        lookDue(x, 3, "1(", -1002);
        lookDue(x, 3, "1()", -1002);
        lookDue(x, 3, "1(1", -1003);
        lookDue(x, 3, "1(1(", -1003);
        lookDue(x, 3, "1(1)(1)(", -1007);
        lookDue(x, 3, "1AAAA", -1004);
        lookDue(x, 3, "1(1)1", -1004);
        lookDue(x, 3, "repeal 1", -1000);
        lookDue(new StatuteConsolidator(), -1, "1", -9);
    }

    private static void firstDifference() {
        promise = 24;
        StatuteConsolidator x = small();
        amend(x, 2, "replace 1(2) 13");
        amend(x, 3, "replace 1(2) 77");
        amend(x, 4, "repeal 1(1)(1)");
        amend(x, 5, "insert 2 5");
        amend(x, 6, "move 2 1");
        due("day -2", x.firstDifference(-2, 0), -4);
        due("other -2", x.firstDifference(0, -2), -4);
        due("day 10000", x.firstDifference(10000, 0), -4);
        due("other 10000", x.firstDifference(0, 10000), -4);
        due("same day", x.firstDifference(6, 6), -9);
        due("the same text again", x.firstDifference(-1, 2), -9);
        due("texts", x.firstDifference(2, 3), 3);
        due("repealed", x.firstDifference(3, 4), 2);
        due("one has a position more", x.firstDifference(4, 5), 5);
        due("the other has it", x.firstDifference(5, 4), 5);
        due("paths", x.firstDifference(5, 6), 4);
        due("against an empty version", new StatuteConsolidator().firstDifference(-1, 9999), -9);
        StatuteConsolidator y = sections(2);
        y.addProvision(0, 5);
        y.addProvision(1, 5);
        amend(y, 1, "move 1(1) 2(1);move 2(1) 2(1A);move 2(1A) 2(1AA);renumber 2");
        amend(y, 2, "replace 1 0");
        due("other origins at the same paths do not count", y.firstDifference(1, 2), -9);
    }

    private static void referenceCountAt() {
        promise = 25;
        StatuteConsolidator x = small();
        x.addReference(1, 0);
        x.addReference(1, 0);
        amend(x, 3, "insert 1 1;repeal 2");
        due("day -2", x.referenceCountAt(-2, 0), -4);
        due("day before position", x.referenceCountAt(10000, 99), -4);
        due("position -1", x.referenceCountAt(3, -1), -2);
        due("position 6", x.referenceCountAt(3, 6), -2);
        due("without", x.referenceCountAt(3, 0), 0);
        due("created", x.referenceCountAt(3, 4), 0);
        due("repealed", x.referenceCountAt(3, 5), 2);
        due("original", x.referenceCountAt(-1, 4), 2);
        x.addReference(1, 1);
        x.addReference(1, 1);
        due("four", x.referenceCountAt(3, 5), 4);
    }

    private static void referenceAt() {
        promise = 26;
        StatuteConsolidator x = small();
        x.addReference(1, 4);
        x.addReference(1, 1);
        x.addReference(1, 3);
        amend(x, 2, "insert 1 1;move 1(1) 1(2)");
        amend(x, 3, "repeal 1(2)");
        amend(x, 4, "renumber 1");
        amend(x, 5, "repeal 2");
        due("day before all", x.referenceAt(-2, 99, 99), -4);
        due("position before reference", x.referenceAt(-1, 5, 99), -2);
        due("position -1", x.referenceAt(-1, -1, 0), -2);
        due("reference -1", x.referenceAt(-1, 4, -1), -9);
        due("reference 3", x.referenceAt(-1, 4, 3), -9);
        due("reference MAX", x.referenceAt(-1, 4, MAX), -9);
        due("of one without", x.referenceAt(-1, 0, 0), -9);
        due("of a created one", x.referenceAt(2, 4, 0), -9);
        due("original 0", x.referenceAt(-1, 4, 0), 2);
        due("original 1", x.referenceAt(-1, 4, 1), 4);
        due("original 2", x.referenceAt(-1, 4, 2), 3);
        due("to a moved one", x.referenceAt(2, 5, 0), 3);
        due("to itself, further back", x.referenceAt(2, 5, 1), 5);
        due("to one that came to the front", x.referenceAt(2, 5, 2), 1);
        due("to a repealed one", x.referenceAt(3, 5, 2), -10);
        due("to a removed one", x.referenceAt(4, 4, 2), -10);
        due("to a renumbered one", x.referenceAt(4, 4, 0), 2);
        due("from a repealed one", x.referenceAt(5, 4, 0), 2);
        due("from a repealed one to itself", x.referenceAt(5, 4, 1), -10);
    }

    private static void danglingCount() {
        promise = 27;
        StatuteConsolidator x = small();
        x.addReference(0, 2);
        x.addReference(0, 2);
        x.addReference(0, 1);
        x.addReference(2, 2);
        x.addReference(1, 4);
        amend(x, 2, "repeal 1(1)");
        amend(x, 3, "renumber 1");
        amend(x, 4, "repeal 2");
        due("day -2", x.danglingCount(-2), -4);
        due("day 10000", x.danglingCount(10000), -4);
        due("original", x.danglingCount(-1), 0);
        due("day 1", x.danglingCount(1), 0);
        due("repealed, but its own reference does not count", x.danglingCount(2), 3);
        due("removed", x.danglingCount(3), 3);
        due("another one repealed", x.danglingCount(4), 3);
        x = small();
        x.addReference(1, 0);
        amend(x, 2, "repeal 1");
        due("to the first one", x.danglingCount(1), 0);
        due("to the first one, repealed", x.danglingCount(2), 1);
    }

    private static void conflictCount() {
        promise = 28;
        StatuteConsolidator x = small();
        amend(x, 2, "repeal 3;replace 1 5;repeal 4");
        amend(x, 3, "repeal 5");
        due("day -2", x.conflictCount(-2), -4);
        due("day 10000", x.conflictCount(10000), -4);
        due("day -1", x.conflictCount(-1), 0);
        due("day 1", x.conflictCount(1), 0);
        due("day 2", x.conflictCount(2), 2);
        due("the ones after a conflict are applied", x.textAt(2, 0), 5);
        due("day 9999", x.conflictCount(9999), 3);
    }

    private static void conflictAmendment() {
        promise = 29;
        StatuteConsolidator x = small();
        amend(x, 5, "repeal 3");
        amend(x, 2, "repeal 3;repeal 4");
        due("day before conflict", x.conflictAmendment(-2, 99), -4);
        due("day 10000", x.conflictAmendment(10000, 0), -4);
        due("conflict -1", x.conflictAmendment(5, -1), -9);
        due("conflict 3", x.conflictAmendment(5, 3), -9);
        due("conflict MAX", x.conflictAmendment(5, MAX), -9);
        due("day 1", x.conflictAmendment(1, 0), -9);
        due("conflict 2 of day 2", x.conflictAmendment(2, 2), -9);
        due("first", x.conflictAmendment(5, 0), 1);
        due("second", x.conflictAmendment(5, 1), 1);
        due("third", x.conflictAmendment(5, 2), 0);
    }

    private static void conflictInstruction() {
        promise = 30;
        StatuteConsolidator x = small();
        amend(x, 5, "replace 1 5;replace 1 6;repeal 3");
        amend(x, 2, "replace 1 5;repeal 4");
        due("day before conflict", x.conflictInstruction(-2, 99), -4);
        due("day 10000", x.conflictInstruction(10000, 0), -4);
        due("conflict -1", x.conflictInstruction(5, -1), -9);
        due("conflict 2", x.conflictInstruction(5, 2), -9);
        due("first", x.conflictInstruction(5, 0), 1);
        due("second", x.conflictInstruction(5, 1), 2);
    }

    private static void reasonDue(String text, int... reasons) {
        StatuteConsolidator x = small();
        amend(x, 0, "repeal 1(2)");
        amend(x, 1, text);
        due("conflicts of " + text, x.conflictCount(1), reasons.length);
        for (int at = 0; at < reasons.length; at++) {
            due("reason " + at + " of " + text, x.conflictReason(1, at), reasons[at]);
        }
    }

    private static void conflictReason() {
        promise = 31;
        StatuteConsolidator x = small();
        amend(x, 5, "repeal 3");
        due("day before conflict", x.conflictReason(-2, 99), -4);
        due("day 10000", x.conflictReason(10000, 0), -4);
        due("conflict -1", x.conflictReason(5, -1), -9);
        due("conflict 1", x.conflictReason(5, 1), -9);
        due("day 4", x.conflictReason(4, 0), -9);
        reasonDue("insert 3 1;add 3 1;replace 3 1;repeal 3;renumber 3", 1, 1, 1, 1, 1);
        reasonDue("move 3 1;move 1 3;move 3 3;move 1(2) 3;move 3 1(2)", 1, 1, 1, 1, 1);
        reasonDue("insert 1(2) 1;add 1(2) 1;replace 1(2) 1;repeal 1(2);renumber 1(2)", 2, 2, 2, 2, 2);
        reasonDue("move 1(2) 1;move 1 1(2);move 1(2) 1(2)", 2, 2, 2);
        reasonDue("add 1(1)(1) 1;move 1 1;move 1 1(1);move 1(1) 1", 3, 3, 3, 3);
        reasonDue("insert 1 1;insert 1 2;move 2 1", 5, 5);
        reasonDue("renumber 2;renumber 1(1)(1)");
        reasonDue("move 1(1) 1(2)", 2);
        reasonDue("repeal 1;repeal 1(1);add 1 1", 2, 2);
        reasonDue("insert 1 1;move 1A 1;move 2 1A;move 2 1A", 1);
    }

    private static void conflictReasonFullVersion() {
        promise = 31;
        StatuteConsolidator x = new StatuteConsolidator();
        x.addProvision(-1, 0);
        x.addProvision(0, 0);
        x.addProvision(1, 0);
        for (int at = 3; at < 30; at++) {
            x.addProvision(-1, 0);
        }
        String fifteen = "add 2 1" + ";add 2 1".repeat(14);
        amend(x, 0, fifteen);
        amend(x, 1, fifteen);
        amend(x, 2, "add 2 1;insert 2 1;add 1(1)(1) 1;add 29 1;repeal 2(1);add 2(1) 1;replace 3 9;move 3 4;renumber 2;add 2 5");
        due("conflicts of day 1", x.conflictCount(1), 0);
        due("count of day 1", x.provisionCount(1), 60);
        due("path of the last child", path(x, 1, 33), "2(30)");
        due("conflicts of day 2", x.conflictCount(2), 5);
        due("add", x.conflictReason(2, 0), 4);
        due("insert", x.conflictReason(2, 1), 4);
        due("level before full", x.conflictReason(2, 2), 3);
        due("missing before full", x.conflictReason(2, 3), 1);
        due("repealed before full", x.conflictReason(2, 4), 2);
        due("count of day 2", x.provisionCount(2), 60);
        due("the last child after renumbering", path(x, 2, 33), "2(30)");
        due("its text", x.textAt(2, 33), 5);
        amend(x, 3, "insert 2 1;insert 2 2");
        due("full before label", x.conflictReason(3, 6), 4);
    }

    private static void doCommute() {
        promise = 32;
        StatuteConsolidator x = small();
        due("none there", x.doCommute(0, 0), -3);
        amend(x, 5, "insert 1 1");
        amend(x, 2, "replace 1 5");
        amend(x, 2, "replace 1 6");
        amend(x, 9, "repeal 1;replace 2 7");
        amend(x, 9, "repeal 7");
        amend(x, 9, "insert 1 1");
        amend(x, 9, "insert 1 2");
        due("other 7", x.doCommute(0, 7), -3);
        due("amendment 7", x.doCommute(7, 0), -3);
        due("-1", x.doCommute(-1, 0), -3);
        due("MIN, MAX", x.doCommute(MIN, MAX), -3);
        due("with itself", x.doCommute(3, 3), 1);
        due("apart", x.doCommute(0, 1), 1);
        due("apart, the other way", x.doCommute(1, 0), 1);
        due("two texts", x.doCommute(1, 2), 0);
        due("a text of a repealed one", x.doCommute(1, 3), 0);
        due("two that conflict always", x.doCommute(4, 1), 1);
        due("two alike, by whichever created", x.doCommute(0, 5), 1);
        due("two alike but for the text", x.doCommute(0, 6), 0);
        due("insert after a repealed one", x.doCommute(0, 3), 0);
        due("the day is not asked", x.setCommencement(0, 0), 5);
        due("apart, again", x.doCommute(0, 1), 1);
        commuteByOrigin();
    }

    /** The same paths and texts on both ways, but of other provisions of the original text. */
    private static void commuteByOrigin() {
        StatuteConsolidator x = new StatuteConsolidator();
        x.addProvision(-1, 5);
        x.addProvision(0, 5);
        x.addProvision(0, 5);
        x.addProvision(0, 5);
        amend(x, 0, "move 1(1) 1(3);renumber 1");
        amend(x, 0, "move 1(1) 1(2);renumber 1");
        amend(x, 0, "replace 1 5");
        due("the same children in another order", x.doCommute(0, 1), 0);
        due("a replacement by the same text", x.doCommute(0, 2), 1);
        StatuteConsolidator y = sections(2);
        amend(y, 0, "insert 1 7");
        amend(y, 0, "move 2 1");
        due("only one of both is applied", y.doCommute(0, 1), 0);
    }

    private static void averageDue(StatuteConsolidator x, int day, float want) {
        due("averageLevel(" + day + ")", x.averageLevel(day), Float.floatToIntBits(want));
    }

    private static void averageLevel() {
        promise = 33;
        StatuteConsolidator x = small();
        amend(x, 2, "repeal 1(2)");
        amend(x, 3, "repeal 1(1)");
        amend(x, 4, "repeal 1;repeal 2");
        due("day -2", x.averageLevel(-2), -4);
        due("day 10000", x.averageLevel(10000), -4);
        averageDue(x, -1, 9f / 5f);
        averageDue(x, 2, 7f / 4f);
        averageDue(x, 3, 1f);
        due("all repealed", x.averageLevel(4), 0x7fc00000);
        due("no provision", new StatuteConsolidator().averageLevel(-1), 0x7fc00000);
        for (int count = 1; count < 30; count++) {
            StatuteConsolidator y = sections(count);
            y.addProvision(0, 1);
            averageDue(y, -1, (float) (count + 2) / (float) (count + 1));
        }
    }

    private static void shareDue(StatuteConsolidator x, int day, double want) {
        due("repealedShare(" + day + ")", x.repealedShare(day), Double.doubleToLongBits(want));
    }

    private static void repealedShare() {
        promise = 34;
        StatuteConsolidator x = small();
        amend(x, 2, "repeal 1(2)");
        amend(x, 3, "repeal 1(1)");
        amend(x, 4, "repeal 1;repeal 2");
        due("day -2", x.repealedShare(-2), -4L);
        due("day 10000", x.repealedShare(10000), -4L);
        shareDue(x, -1, 0.0);
        shareDue(x, 2, 1.0 / 5.0);
        shareDue(x, 3, 3.0 / 5.0);
        shareDue(x, 4, 1.0);
        due("no provision", new StatuteConsolidator().repealedShare(-1), 0x7ff8000000000000L);
        for (int count = 1; count <= 30; count++) {
            StatuteConsolidator y = sections(count);
            amend(y, 0, "repeal 1;repeal 2;repeal 3");
            shareDue(y, 0, (double) Math.min(count, 3) / (double) count);
        }
    }

    private static void newShelf() {
        promise = 35;
        StatuteConsolidator x = small();
        due("shelf -1", x.newShelf(-1, 0, 1), -5);
        due("shelf 3", x.newShelf(3, 0, 1), -5);
        due("type -1", x.newShelf(0, -1, 1), -5);
        due("type 4", x.newShelf(0, 4, 1), -5);
        due("length 11", x.newShelf(0, 0, 11), -5);
        due("length MAX", x.newShelf(0, 0, MAX), -5);
        due("shelf before length", x.newShelf(3, 0, -1), -5);
        due("type before length", x.newShelf(0, 4, -1), -5);
        due("length -1", x.newShelf(0, 0, -1), -14);
        due("length MIN", x.newShelf(0, 0, MIN), -14);
        due("still empty", x.shelved(0, 0), -11);
        due("length 0", x.newShelf(0, 0, 0), 1);
        due("no index in it", x.shelved(0, 0), -12);
        due("length 10", x.newShelf(2, 3, 10), 1);
        due("index 9", x.shelved(2, 9), -11);
        due("index 10", x.shelved(2, 10), -12);
        due("length 2", x.newShelf(1, 0, 2), 1);
        x.place(1, 1, 3);
        due("refused", x.newShelf(1, 0, -1), -14);
        due("the array stays", x.shelved(1, 1), 3);
        due("anew", x.newShelf(1, 0, 2), 1);
        due("the previous one is lost", x.shelved(1, 1), -11);
    }

    private static void place() {
        promise = 36;
        StatuteConsolidator x = small();
        due("shelf -1 before all", x.place(-1, -1, -1), -5);
        due("shelf 3", x.place(3, 0, 0), -5);
        due("provision before empty", x.place(0, 0, 5), -1);
        due("provision -1", x.place(0, 0, -1), -1);
        due("empty before index", x.place(0, -1, 0), -11);
        x.newShelf(0, 2, 2);
        due("provision before index", x.place(0, 2, 9), -1);
        due("index 2 before type", x.place(0, 2, 0), -12);
        due("index -1", x.place(0, -1, 2), -12);
        due("index MAX", x.place(0, MAX, 2), -12);
        due("level 1 for type 2", x.place(0, 0, 0), -13);
        due("level 3 for type 2", x.place(0, 0, 4), -13);
        due("nothing placed", x.shelved(0, 0), -11);
        due("level 2 for type 2", x.place(0, 0, 2), 1);
        due("over it", x.place(0, 0, 3), 1);
        due("what is there", x.shelved(0, 0), 3);
        due("refused", x.place(0, 0, 1), -13);
        due("what is still there", x.shelved(0, 0), 3);
        x.newShelf(1, 0, 3);
        due("level 1 for type 0", x.place(1, 0, 0), 1);
        due("level 2 for type 0", x.place(1, 1, 2), 1);
        due("level 3 for type 0", x.place(1, 2, 4), 1);
        x.newShelf(2, 1, 1);
        due("level 2 for type 1", x.place(2, 0, 2), -13);
        due("level 1 for type 1", x.place(2, 0, 1), 1);
        x.newShelf(2, 3, 1);
        due("level 1 for type 3", x.place(2, 0, 0), -13);
        due("level 3 for type 3", x.place(2, 0, 4), 1);
    }

    private static void shelved() {
        promise = 37;
        StatuteConsolidator x = small();
        due("shelf -1", x.shelved(-1, -1), -5);
        due("shelf 3", x.shelved(3, 0), -5);
        due("shelf MAX", x.shelved(MAX, 0), -5);
        due("empty before index", x.shelved(0, -1), -11);
        x.newShelf(0, 0, 2);
        due("index -1", x.shelved(0, -1), -12);
        due("index 2", x.shelved(0, 2), -12);
        due("index MIN", x.shelved(0, MIN), -12);
        due("missing", x.shelved(0, 1), -11);
        x.place(0, 1, 4);
        due("there", x.shelved(0, 1), 4);
        due("still missing", x.shelved(0, 0), -11);
        x.newShelf(0, 0, 10);
        due("index 9 of ten", x.shelved(0, 9), -11);
    }

    private static void copyShelf() {
        promise = 38;
        StatuteConsolidator x = small();
        due("shelf -1", x.copyShelf(-1, 0), -5);
        due("shelf 3", x.copyShelf(3, 0), -5);
        due("to -1, before empty", x.copyShelf(0, -1), -5);
        due("to 3", x.copyShelf(0, 3), -5);
        due("empty", x.copyShelf(0, 1), -11);
        x.newShelf(1, 1, 3);
        due("an empty one onto another", x.copyShelf(0, 1), -11);
        due("which stays", x.shelved(1, 2), -11);
        due("its length", x.shelved(1, 3), -12);
        x.newShelf(0, 2, 4);
        x.place(0, 3, 2);
        due("the length", x.copyShelf(0, 1), 4);
        due("the element", x.shelved(1, 3), 2);
        due("the type", x.place(1, 0, 0), -13);
        x.place(0, 3, 3);
        due("the copy stays", x.shelved(1, 3), 2);
        x.place(1, 0, 3);
        due("the first one stays", x.shelved(0, 0), -11);
        due("onto itself", x.copyShelf(0, 0), 4);
        due("its element", x.shelved(0, 3), 3);
        x.newShelf(2, 0, 0);
        due("length 0", x.copyShelf(2, 0), 0);
        due("its length", x.shelved(0, 0), -12);
        x.clear();
        x.newShelf(0, 0, 3);
        due("onto an empty one", x.copyShelf(0, 2), 3);
        due("which is not empty now", x.shelved(2, 3), -12);
    }

    private static void saveSnapshot() {
        promise = 39;
        StatuteConsolidator x = new StatuteConsolidator();
        due("of nothing", x.saveSnapshot(), 0);
        x.addProvision(-1, 1);
        x.newShelf(0, 0, 1);
        type(x, "1");
        due("of one", x.saveSnapshot(), 1);
        due("the shelf stays", x.shelved(0, 0), -11);
        due("its length stays", x.shelved(0, 1), -12);
        due("the input stays", x.clearInput(), 1);
        x.addProvision(-1, 2);
        due("the earlier one is replaced", x.saveSnapshot(), 2);
        x.clear();
        due("restored", x.restoreSnapshot(), 2);
        due("amendments are not counted", amend(x, 0, "add 1 1"), 0);
        due("of two", x.saveSnapshot(), 2);
    }

    private static void restoreSnapshot() {
        promise = 40;
        StatuteConsolidator x = small();
        x.newShelf(0, 0, 1);
        due("none saved", x.restoreSnapshot(), -9);
        due("the shelf stays then", x.shelved(0, 1), -12);
        x.addReference(0, 4);
        amend(x, 5, "replace 1 5;insert 2 6");
        x.saveSnapshot();
        x.setText(0, 99);
        x.insertProvision(0, 98);
        x.addReference(0, 1);
        x.addReference(2, 1);
        x.setCommencement(0, 1);
        x.removeLastAmendment();
        amend(x, 1, "repeal 1;repeal 2;repeal 3");
        amend(x, 1, "repeal 1");
        type(x, "12");
        for (int times = 0; times < 2; times++) {
            x.newShelf(2, 0, 1);
            due("restored", x.restoreSnapshot(), 5);
            due("shelf 0", x.shelved(0, 0), -11);
            due("shelf 0 is empty", x.shelved(0, 1), -11);
            due("shelf 2 is empty", x.copyShelf(2, 1), -11);
            due("the original", whole(x, -1), "1:10 1(1):12 1(1)(1):14 1(2):13 2:11");
            due("day 4", whole(x, 4), "1:10 1(1):12 1(1)(1):14 1(2):13 2:11");
            due("day 5", whole(x, 5), "1:5 1(1):12 1(1)(1):14 1(2):13 2:11 2A:6");
            due("amendments", x.amendmentCount(), 1);
            due("instructions", x.instructionCount(0), 2);
            due("references", x.referenceCountAt(-1, 0), 1);
            due("where it leads", x.referenceAt(-1, 0, 0), 2);
            due("references of 1(1)", x.referenceCountAt(-1, 1), 0);
            due("the next identifier", x.addProvision(-1, 3), 5);
            x.clear();
        }
        due("the input stays", x.clearInput(), 2);
        due("kept over clear", x.restoreSnapshot(), 5);
        restoreOverOthers();
    }

    /** Other references and instructions took the places of the saved ones meanwhile. */
    private static void restoreOverOthers() {
        StatuteConsolidator x = small();
        x.addReference(0, 4);
        x.addReference(0, 3);
        amend(x, 5, "move 1(1) 1(2);replace 2 6");
        x.saveSnapshot();
        x.clear();
        x.addProvision(-1, 77);
        x.addReference(0, 0);
        x.addReference(0, 0);
        amend(x, 2, "move 2 1;replace 1 3");
        x.restoreSnapshot();
        due("day 4", whole(x, 4), "1:10 1(1):12 1(1)(1):14 1(2):13 2:11");
        due("day 5", whole(x, 5), "1:10 1(2):13 1(2A):12 1(2A)(1):14 2:6");
        due("the first reference", x.referenceAt(-1, 0, 0), 2);
        due("the second reference", x.referenceAt(-1, 0, 1), 3);
    }

    // ---- what the description says of instructions and their order

    private static void after(String text, String want) {
        StatuteConsolidator x = small();
        amend(x, 0, text);
        due("after " + text, whole(x, 0), want);
        due("the original", whole(x, -1), "1:10 1(1):12 1(1)(1):14 1(2):13 2:11");
    }

    private static void instructionsInVersions() {
        promise = 15;
        after("insert 1(1) 5", "1:10 1(1):12 1(1)(1):14 1(1A):5 1(2):13 2:11");
        after("insert 2 5;insert 2A 6;insert 2A 7", "1:10 1(1):12 1(1)(1):14 1(2):13 2:11 2A:5 2AA:7 2B:6");
        after("add 2 5;add 2 6;add 2(1) 7", "1:10 1(1):12 1(1)(1):14 1(2):13 2:11 2(1):5 2(1)(1):7 2(2):6");
        after("insert 1(2) 5;add 1 6", "1:10 1(1):12 1(1)(1):14 1(2):13 1(2A):5 1(3):6 2:11");
        after("repeal 1(2);add 1 6", "1:10 1(1):12 1(1)(1):14 1(2):13- 1(3):6 2:11");
        after("replace 1(1)(1) 5", "1:10 1(1):12 1(1)(1):5 1(2):13 2:11");
        after("repeal 2;insert 1 5", "1:10 1(1):12 1(1)(1):14 1(2):13 1A:5 2:11-");
        after("insert 1 5;insert 1A 6;insert 1A 7;move 1B 2;insert 1AA 8",
            "1:10 1(1):12 1(1)(1):14 1(2):13 1A:5 1AA:7 1B:8 2:11 2A:6");
        after("repeal 1", "1:10- 1(1):12- 1(1)(1):14- 1(2):13- 2:11");
        after("move 1 2", "2:11 2A:10 2A(1):12 2A(1)(1):14 2A(2):13");
        after("move 2 1", "1:10 1(1):12 1(1)(1):14 1(2):13 1A:11");
        after("move 1(1) 1(2)", "1:10 1(2):13 1(2A):12 1(2A)(1):14 2:11");
        after("add 2 5;move 1(1) 2(1)", "1:10 1(2):13 2:11 2(1):5 2(1A):12 2(1A)(1):14");
        after("insert 1 5;move 1A 1", "1:10 1(1):12 1(1)(1):14 1(2):13 1A:5 2:11");
        after("insert 1 5;move 2 1", "1:10 1(1):12 1(1)(1):14 1(2):13 1A:5 2:11");
        after("repeal 1(1);renumber 1", "1:10 1(1):13 2:11");
        after("insert 1(1) 5;add 1(1A) 6;renumber 1", "1:10 1(1):12 1(1)(1):14 1(2):5 1(2)(1):6 1(3):13 2:11");
        after("repeal 1(1)(1);renumber 1", "1:10 1(1):12 1(1)(1):14- 1(2):13 2:11");
        after("repeal 1(1)(1);renumber 1(1)", "1:10 1(1):12 1(2):13 2:11");
        after("renumber 2", "1:10 1(1):12 1(1)(1):14 1(2):13 2:11");
        after("repeal 1(1);move 1(1)(1) 1(1)(1)", "1:10 1(1):12- 1(1)(1):14- 1(2):13 2:11");
        after("add 1(1) 5;insert 1(1)(1) 6;move 1(1)(1A) 1(1)(2)",
            "1:10 1(1):12 1(1)(1):14 1(1)(2):5 1(1)(2A):6 1(2):13 2:11");
    }

    private static void orderOfAmendments() {
        promise = 13;
        StatuteConsolidator x = small();
        amend(x, 5, "replace 1 100");
        amend(x, 3, "replace 1 101");
        amend(x, 5, "replace 1 102");
        amend(x, 4, "replace 1 103");
        due("day 2", x.textAt(2, 0), 10);
        due("day 3", x.textAt(3, 0), 101);
        due("day 4", x.textAt(4, 0), 103);
        due("day 5", x.textAt(5, 0), 102);
        x.setCommencement(2, 2);
        due("day 2 again", x.textAt(2, 0), 102);
        due("day 5 again", x.textAt(5, 0), 100);
        x.setCommencement(1, 5);
        due("the same day, the greater number", x.textAt(5, 0), 101);
        x = sections(2);
        amend(x, 0, "move 1 2");
        due("two sections", whole(x, 0), "2:1 2A:0");
        for (int number = 1; number < 8; number++) {
            amend(x, 8 - number, "add 2 " + number);
        }
        due("all eight", whole(x, 7), "2:1 2(1):7 2(2):6 2(3):5 2(4):4 2(5):3 2(6):2 2(7):1 2A:0");
    }

    private static void examples() {
        promise = 3;
        StatuteConsolidator x = new StatuteConsolidator();
        due("example 1", x.addProvision(-1, 10), 0);
        due("example 1", x.addProvision(-1, 20), 1);
        due("example 1", x.insertProvision(0, 15), 2);
        due("example 1", x.pathLengthAt(-1, 1), 2);
        due("example 1", x.pathCharacterAt(-1, 1, 1), 65);
        due("example 1", x.insertProvision(0, 16), -7);
        promise = 26;
        x = new StatuteConsolidator();
        due("example 2", x.addProvision(-1, 10), 0);
        due("example 2", x.addProvision(0, 11), 1);
        due("example 2", x.addReference(0, 1), 1);
        due("example 2", x.referenceAt(-1, 0, 0), 1);
        due("example 2", x.averageLevel(-1), 1069547520);
        due("example 2", x.levelAt(0, 2), -2);
        promise = 28;
        x = new StatuteConsolidator();
        due("example 3", amend(x, 7, "repeal 3"), 0);
        due("example 3", x.conflictCount(6), 0);
        due("example 3", x.conflictCount(7), 1);
        due("example 3", x.conflictReason(7, 0), 1);
        due("example 3", x.provisionCount(7), 0);
        promise = 36;
        x = new StatuteConsolidator();
        due("example 4", x.addProvision(-1, 10), 0);
        due("example 4", x.newShelf(0, 2, 1), 1);
        due("example 4", x.place(0, 0, 0), -13);
        due("example 4", x.place(0, 0, 1), -1);
        due("example 4", x.newShelf(0, 0, 1), 1);
        due("example 4", x.place(0, 0, 0), 1);
        due("example 4", x.shelved(0, 0), 0);
    }
}
