import java.io.IOException;
import java.lang.annotation.Retention;
import java.lang.annotation.RetentionPolicy;
import java.lang.reflect.InvocationTargetException;
import java.lang.reflect.Method;
import java.nio.file.Files;
import java.nio.file.Path;
import java.util.ArrayList;
import java.util.Comparator;
import java.util.HashMap;
import java.util.List;
import java.util.Map;

/**
 * For each sentence of the document that names a boundary case a test of its own. A test is a method whose
 * name begins with its promise; the sentence stands above it, and must stand in the document too, in the
 * description or in the section of that promise. A sentence of the description is tested at the promise
 * whose answers show it. No object is asked more often than the document promises answers.
 */
public final class BoundaryTests {
    private static final int MIN = Integer.MIN_VALUE;
    private static final int MAX = Integer.MAX_VALUE;
    private static final int PROMISES = 40;
    private static final int PROMISED_CALLS = 512;

    private static final int NO_SUCH_PROVISION = -1;
    private static final int NO_SUCH_POSITION = -2;
    private static final int NO_SUCH_AMENDMENT = -3;
    private static final int NO_SUCH_DAY = -4;
    private static final int BAD_VALUE = -5;
    private static final int FULL = -6;
    private static final int NO_LABEL = -7;
    private static final int TOO_DEEP = -8;
    private static final int NONE = -9;
    private static final int DANGLING = -10;
    private static final int MISSING = -11;
    private static final int INDEX_OUT_OF_RANGE = -12;
    private static final int WRONG_TYPE = -13;
    private static final int NEGATIVE_LENGTH = -14;
    private static final int SYNTAX_ERROR = -1000;

    private static final int[] NO_DAYS = {MIN, -1000, -3, -2, 10000, 10001, MAX};
    private static final int[] NO_TEXTS = {MIN, -9, -1, 10000, 10001, MAX};
    private static final int[] NO_SHELVES = {MIN, -1, 3, 4, MAX};

    private static final String STATE_STAYS =
        "A method that returns one of the negative error codes leaves the state unchanged";
    private static final String ONLY_ANSWERS =
        "Methods whose documentation does not mention a change only answer a question.";
    private static final String FIRST_ERROR =
        "If several errors apply, the one that is listed first in the documentation of the method is returned.";

    /** The words of the document that a test is for. */
    @Retention(RetentionPolicy.RUNTIME)
    private @interface Says {
        String[] value();
    }

    private static int wrong = 0;
    private static int checked = 0;
    private static Method running = null;

    // ---- running the tests

    public static void main(String[] args) throws IOException {
        List<Method> tests = testsInOrder();
        boolean[] tested = new boolean[PROMISES + 1];
        for (Method test : tests) {
            running = test;
            tested[promiseOf(test)] = true;
            run(test);
        }
        for (int promise = 1; promise <= PROMISES; promise++) {
            if (!tested[promise]) {
                report("promise " + promise + " has no test");
            }
        }
        checkSentences(tests);
        System.out.println(wrong == 0 ? checked + " answers of " + tests.size() + " tests are as due"
            : wrong + " answers are not as due");
        if (wrong != 0) {
            System.exit(1);
        }
    }

    private static List<Method> testsInOrder() {
        List<Method> tests = new ArrayList<>();
        for (Method method : BoundaryTests.class.getDeclaredMethods()) {
            if (method.isAnnotationPresent(Says.class)) {
                tests.add(method);
            }
        }
        tests.sort(Comparator.comparingInt(BoundaryTests::promiseOf).thenComparing(Method::getName));
        return tests;
    }

    private static int promiseOf(Method test) {
        return Integer.parseInt(test.getName().replaceFirst("^promise(\\d+)\\D.*$", "$1"));
    }

    private static void run(Method test) {
        try {
            test.invoke(null);
        } catch (InvocationTargetException thrown) {
            report(test.getName() + ": threw " + thrown.getCause());
        } catch (IllegalAccessException thrown) {
            report(test.getName() + ": could not be run");
        }
    }

    private static void report(String text) {
        wrong++;
        System.out.println(text);
    }

    /** A sentence that the document does not have is not one that a test may ask for. */
    private static void checkSentences(List<Method> tests) throws IOException {
        Path document = Path.of("../shared/DOC.md");
        if (!Files.exists(document)) {
            System.out.println("the sentences are not compared: there is no " + document);
            return;
        }
        String[] sections = Files.readString(document).replaceAll("\\s+", " ").split("## Promise ");
        for (Method test : tests) {
            for (String sentence : test.getAnnotation(Says.class).value()) {
                if (!sections[0].contains(sentence) && !sections[promiseOf(test)].contains(sentence)) {
                    report(test.getName() + ": the document does not say '" + sentence + "' there");
                }
            }
        }
    }

    private static void due(String what, long got, long want) {
        checked++;
        if (got != want) {
            report(running.getName() + ": " + what + " answered " + got + ", due is " + want);
        }
    }

    private static void due(String what, String got, String want) {
        checked++;
        if (!got.equals(want)) {
            report(running.getName() + ": " + what + " is '" + got + "', due is '" + want + "'");
        }
    }

    /** The object under test, with its calls counted: nothing is promised after the 512th. */
    private static final class Statute {
        private final StatuteConsolidator object = new StatuteConsolidator();
        private int calls = 0;

        private StatuteConsolidator next() {
            calls++;
            if (calls == PROMISED_CALLS + 1) {
                report(running.getName() + ": this test makes more calls than the document promises answers");
            }
            return object;
        }

        int addProvision(int parent, int text) { return next().addProvision(parent, text); }
        int insertProvision(int provision, int text) { return next().insertProvision(provision, text); }
        int setText(int provision, int text) { return next().setText(provision, text); }
        int addReference(int provision, int target) { return next().addReference(provision, target); }
        int clear() { return next().clear(); }
        int originalCount() { return next().originalCount(); }
        int appendCharacter(int character) { return next().appendCharacter(character); }
        int clearInput() { return next().clearInput(); }
        int addAmendment(int day) { return next().addAmendment(day); }
        int amendmentCount() { return next().amendmentCount(); }
        int instructionCount(int amendment) { return next().instructionCount(amendment); }
        int setCommencement(int amendment, int day) { return next().setCommencement(amendment, day); }
        int removeLastAmendment() { return next().removeLastAmendment(); }
        int provisionCount(int day) { return next().provisionCount(day); }
        int levelAt(int day, int index) { return next().levelAt(day, index); }
        int textAt(int day, int index) { return next().textAt(day, index); }
        int isRepealedAt(int day, int index) { return next().isRepealedAt(day, index); }
        int pathLengthAt(int day, int index) { return next().pathLengthAt(day, index); }
        int pathCharacterAt(int day, int index, int position) { return next().pathCharacterAt(day, index, position); }
        int originAt(int day, int index) { return next().originAt(day, index); }
        int creatorAt(int day, int index) { return next().creatorAt(day, index); }
        int find(int day) { return next().find(day); }
        int firstDifference(int day, int other) { return next().firstDifference(day, other); }
        int referenceCountAt(int day, int index) { return next().referenceCountAt(day, index); }
        int referenceAt(int day, int index, int reference) { return next().referenceAt(day, index, reference); }
        int danglingCount(int day) { return next().danglingCount(day); }
        int conflictCount(int day) { return next().conflictCount(day); }
        int conflictAmendment(int day, int conflict) { return next().conflictAmendment(day, conflict); }
        int conflictInstruction(int day, int conflict) { return next().conflictInstruction(day, conflict); }
        int conflictReason(int day, int conflict) { return next().conflictReason(day, conflict); }
        int doCommute(int amendment, int other) { return next().doCommute(amendment, other); }
        int averageLevel(int day) { return next().averageLevel(day); }
        long repealedShare(int day) { return next().repealedShare(day); }
        int newShelf(int shelf, int type, int length) { return next().newShelf(shelf, type, length); }
        int place(int shelf, int index, int provision) { return next().place(shelf, index, provision); }
        int shelved(int shelf, int index) { return next().shelved(shelf, index); }
        int copyShelf(int shelf, int to) { return next().copyShelf(shelf, to); }
        int saveSnapshot() { return next().saveSnapshot(); }
        int restoreSnapshot() { return next().restoreSnapshot(); }
    }

    private interface Call {
        long on(Statute x);
    }

    private interface Maker {
        Statute make();
    }

    // ---- making statutes

    private static void type(Statute x, String text) {
        for (int at = 0; at < text.length(); at++) {
            x.appendCharacter(text.charAt(at));
        }
    }

    private static int amend(Statute x, int day, String text) {
        type(x, text);
        return x.addAmendment(day);
    }

    private static int look(Statute x, int day, String path) {
        type(x, path);
        return x.find(day);
    }

    private static String path(Statute x, int day, int index) {
        StringBuilder path = new StringBuilder();
        int length = x.pathLengthAt(day, index);
        for (int at = 0; at < length; at++) {
            path.append((char) x.pathCharacterAt(day, index, at));
        }
        return path.toString();
    }

    /** All provisions of a version as path:text, with a sign behind the repealed ones. */
    private static String whole(Statute x, int day) {
        StringBuilder whole = new StringBuilder();
        int count = x.provisionCount(day);
        for (int index = 0; index < count; index++) {
            whole.append(index == 0 ? "" : " ").append(path(x, day, index)).append(':').append(x.textAt(day, index));
            whole.append(x.isRepealedAt(day, index) == 1 ? "-" : "");
        }
        return whole.toString();
    }

    /** All paths of a version. */
    private static String paths(Statute x, int day) {
        StringBuilder paths = new StringBuilder();
        int count = x.provisionCount(day);
        for (int index = 0; index < count; index++) {
            paths.append(index == 0 ? "" : " ").append(path(x, day, index));
        }
        return paths.toString();
    }

    private static final String SMALL = "1:10 1(1):12 1(1)(1):14 1(2):13 2:11";

    /** Sections 1 and 2, 1(1), 1(2) and 1(1)(1): the identifiers are 0 to 4, the texts 10 to 14. */
    private static Statute small() {
        Statute x = new Statute();
        x.addProvision(-1, 10);
        x.addProvision(-1, 11);
        x.addProvision(0, 12);
        x.addProvision(0, 13);
        x.addProvision(2, 14);
        return x;
    }

    /** Sections from 1 on; the text of each is its identifier. */
    private static Statute sections(int count) {
        Statute x = new Statute();
        for (int at = 0; at < count; at++) {
            x.addProvision(-1, at);
        }
        return x;
    }

    /** Thirty provisions: 1, 1(1), 1(1)(1) with the identifiers 0 to 2, then the sections 2 to 28. */
    private static Statute thirty() {
        Statute x = new Statute();
        x.addProvision(-1, 0);
        x.addProvision(0, 0);
        x.addProvision(1, 0);
        for (int at = 3; at < 30; at++) {
            x.addProvision(-1, 0);
        }
        return x;
    }

    private static String repeated(String instruction, int times) {
        return instruction + (";" + instruction).repeat(times - 1);
    }

    /** Thirty provisions to which the days 0 and 1 add as many as are asked for, as children of 2. */
    private static Statute thirtyAnd(int added) {
        Statute x = thirty();
        amend(x, 0, repeated("add 2 1", 15));
        amend(x, 1, repeated("add 2 1", added - 15));
        return x;
    }

    // ---- that a call changes nothing

    /** Five provisions with references, amendments, shelves, an input, and a snapshot of another text. */
    private static Statute scene(String input) {
        Statute x = new Statute();
        x.addProvision(-1, 70);
        x.addReference(0, 0);
        amend(x, 2, "replace 1 71");
        x.saveSnapshot();
        x.clear();
        x.addProvision(-1, 10);
        x.addProvision(-1, 11);
        x.addProvision(0, 12);
        x.addProvision(0, 13);
        x.addProvision(2, 14);
        x.addReference(0, 4);
        x.addReference(0, 3);
        x.addReference(1, 2);
        amend(x, 5, "insert 1 20;repeal 1(2)");
        amend(x, 3, "repeal 9;add 2 21");
        x.newShelf(0, 0, 2);
        x.place(0, 1, 4);
        x.newShelf(1, 2, 3);
        x.place(1, 0, 2);
        type(x, input);
        return x;
    }

    /** A text, the references of its first provision and the amendments are full. */
    private static Statute fullScene(String input) {
        Statute x = thirty();
        for (int reference = 0; reference < 4; reference++) {
            x.addReference(0, reference);
        }
        for (int amendment = 0; amendment < 8; amendment++) {
            amend(x, amendment, "repeal 9");
        }
        type(x, input);
        return x;
    }

    private static String textPart(Statute x, int day) {
        StringBuilder part = new StringBuilder();
        int count = x.provisionCount(day);
        for (int index = 0; index < count; index++) {
            part.append(path(x, day, index)).append(':').append(x.textAt(day, index));
            part.append(':').append(x.isRepealedAt(day, index)).append(' ');
        }
        return part.toString();
    }

    private static String originPart(Statute x, int day) {
        StringBuilder part = new StringBuilder();
        int count = x.provisionCount(day);
        for (int index = 0; index < count; index++) {
            part.append(x.originAt(day, index)).append(':').append(x.creatorAt(day, index));
            int references = x.referenceCountAt(day, index);
            for (int reference = 0; reference < references; reference++) {
                part.append('>').append(x.referenceAt(day, index, reference));
            }
            part.append(' ');
        }
        return part.toString();
    }

    private static String amendmentPart(Statute x) {
        StringBuilder part = new StringBuilder();
        int conflicts = x.conflictCount(9999);
        for (int conflict = 0; conflict < conflicts; conflict++) {
            part.append(x.conflictAmendment(9999, conflict)).append('.');
            part.append(x.conflictInstruction(9999, conflict)).append('.');
            part.append(x.conflictReason(9999, conflict)).append(' ');
        }
        int count = x.amendmentCount();
        for (int amendment = 0; amendment < count; amendment++) {
            part.append(x.instructionCount(amendment)).append('@').append(x.setCommencement(amendment, 1)).append(' ');
        }
        return part.toString();
    }

    private static String shelfPart(Statute x) {
        StringBuilder part = new StringBuilder();
        for (int shelf = 0; shelf < 3; shelf++) {
            for (int index = 0; index <= 10; index++) {
                part.append(x.shelved(shelf, index)).append(' ');
            }
            part.append(x.place(shelf, 0, 0)).append(' ').append(x.place(shelf, 0, 2)).append(' ');
            part.append(x.place(shelf, 0, 4)).append(' ');
        }
        return part.toString();
    }

    private static String snapshotPart(Statute x) {
        return x.restoreSnapshot() + " " + textPart(x, -1) + originPart(x, -1) + amendmentPart(x);
    }

    private static final int PARTS = 11;

    private static String part(int number, Statute x) {
        switch (number) {
            case 0: return textPart(x, -1);
            case 1: return textPart(x, 5);
            case 2: return textPart(x, 9999);
            case 3: return originPart(x, -1);
            case 4: return originPart(x, 9999);
            case 5: return amendmentPart(x);
            case 6: return shelfPart(x);
            case 7: return snapshotPart(x);
            case 8: return "" + x.clearInput();
            case 9: return "" + look(x, -1, "");
            default: return "" + amend(x, 4, "") + x.provisionCount(4) + x.conflictCount(4);
        }
    }

    /** All that can be asked after a call, each part of it of an object of its own. */
    private static List<String> picture(Maker maker, Call call) {
        List<String> picture = new ArrayList<>();
        for (int number = 0; number < PARTS; number++) {
            Statute x = maker.make();
            call.on(x);
            picture.add(part(number, x));
        }
        return picture;
    }

    private static final Map<String, List<String>> PICTURES = new HashMap<>();

    private static List<String> pictureBefore(String name, Maker maker) {
        if (!PICTURES.containsKey(name)) {
            PICTURES.put(name, picture(maker, x -> 0));
        }
        return PICTURES.get(name);
    }

    private static void changesNothing(String name, Maker maker, String what, long want, Call call) {
        due(what + " on " + name, call.on(maker.make()), want);
        List<String> before = pictureBefore(name, maker);
        List<String> after = picture(maker, call);
        for (int number = 0; number < PARTS; number++) {
            due("part " + number + " of " + name + " after " + what, after.get(number), before.get(number));
        }
    }

    private static void refused(String what, long want, Call call) {
        changesNothing("a scene", () -> scene("1(1)"), what, want, call);
    }

    private static void refusedWhenFull(String what, long want, Call call) {
        changesNothing("a full scene", () -> fullScene("1".repeat(120)), what, want, call);
    }

    private static void onlyAnswers(String what, Call... calls) {
        for (int at = 0; at < calls.length; at++) {
            long answer = calls[at].on(scene("repeal 1"));
            Maker maker = () -> scene("repeal 1");
            changesNothing("an asked scene", maker, what + ", question " + at, answer, calls[at]);
            Statute x = scene("repeal 1");
            calls[at].on(x);
            due(what + ", question " + at + " asked again", calls[at].on(x), answer);
        }
    }

    // ---- promise 1: a new object

    @Says("Creates an object with an empty original text, no amendments, an empty input and empty shelves.")
    private static void promise1AllIsEmpty() {
        Statute x = new Statute();
        due("originalCount()", x.originalCount(), 0);
        due("provisionCount(-1)", x.provisionCount(-1), 0);
        due("provisionCount(0)", x.provisionCount(0), 0);
        due("provisionCount(9999)", x.provisionCount(9999), 0);
        due("amendmentCount()", x.amendmentCount(), 0);
        due("removeLastAmendment()", x.removeLastAmendment(), NONE);
        due("clearInput()", x.clearInput(), 0);
        due("the first identifier", x.addProvision(-1, 0), 0);
        due("the first character", x.appendCharacter(' '), 1);
    }

    @Says("A new object has an empty original text.")
    private static void promise1OriginalTextIsEmpty() {
        Statute x = new Statute();
        due("levelAt(-1, 0)", x.levelAt(-1, 0), NO_SUCH_POSITION);
        due("setText(0, 0)", x.setText(0, 0), NO_SUCH_PROVISION);
        due("clear()", x.clear(), 0);
    }

    @Says("It is empty at first.")
    private static void promise1InputIsEmpty() {
        due("find(-1)", new Statute().find(-1), SYNTAX_ERROR);
        due("addAmendment(0)", new Statute().addAmendment(0), SYNTAX_ERROR);
    }

    @Says("All shelves are empty at first.")
    private static void promise1ShelvesAreEmpty() {
        Statute x = new Statute();
        for (int shelf = 0; shelf < 3; shelf++) {
            due("shelved", x.shelved(shelf, 0), MISSING);
            due("shelved below", x.shelved(shelf, -1), MISSING);
            due("shelved beyond", x.shelved(shelf, 10), MISSING);
            due("copyShelf", x.copyShelf(shelf, shelf), MISSING);
        }
    }

    @Says("Creates an object with an empty original text, no amendments, an empty input and empty shelves.")
    private static void promise1ObjectsAreApart() {
        Statute other = scene("repeal 1");
        Statute x = new Statute();
        due("originalCount()", x.originalCount(), 0);
        due("amendmentCount()", x.amendmentCount(), 0);
        due("clearInput()", x.clearInput(), 0);
        due("shelved(0, 0)", x.shelved(0, 0), MISSING);
        due("restoreSnapshot()", x.restoreSnapshot(), NONE);
        due("clear()", x.clear(), 0);
        due("the other object's provisions", other.originalCount(), 5);
        due("the other object's amendments", other.amendmentCount(), 2);
    }

    @Says("An object is used for at most 512 calls after it has been made")
    private static void promise1TheLastCallIsAnswered() {
        Statute x = thirtyAnd(30);
        x.addReference(2, 29);
        while (x.calls < PROMISED_CALLS - 1) {
            due("provisionCount(1)", x.provisionCount(1), 60);
        }
        due("call 512", x.referenceAt(1, 2, 0), 59);
        due("the calls", x.calls, 512);
    }

    // ---- promise 2: addProvision

    @Says({"NO_SUCH_PROVISION if parent is neither -1 nor an identifier (checked first)",
        "`parent`: the identifier of the parent, or -1 for a section"})
    private static void promise2ParentThatIsNone() {
        Statute x = new Statute();
        due("parent 0 of an empty text", x.addProvision(0, 1), NO_SUCH_PROVISION);
        x.addProvision(-1, 1);
        x.addProvision(-1, 2);
        for (int parent : new int[] {MIN, -1000, -9, -2, 2, 3, 30, 60, MAX}) {
            due("parent " + parent, x.addProvision(parent, 1), NO_SUCH_PROVISION);
        }
        due("the greatest identifier", x.addProvision(1, 1), 2);
        due("the smallest identifier", x.addProvision(0, 1), 3);
        due("-1", x.addProvision(-1, 1), 4);
        due("paths", paths(x, -1), "1 1(1) 2 2(1) 3");
        x.clear();
        due("an identifier that was cleared", x.addProvision(0, 1), NO_SUCH_PROVISION);
    }

    @Says({"BAD_VALUE if text is out of range (checked second)", "`text`: the text, 0 to 9999"})
    private static void promise2TextOutOfRange() {
        Statute x = new Statute();
        for (int text : NO_TEXTS) {
            due("text " + text, x.addProvision(-1, text), BAD_VALUE);
        }
        due("text 0", x.addProvision(-1, 0), 0);
        due("text 9999", x.addProvision(-1, 9999), 1);
        due("the texts", whole(x, -1), "1:0 2:9999");
        for (int text : NO_TEXTS) {
            due("text of a child " + text, x.addProvision(0, text), BAD_VALUE);
        }
    }

    @Says("TOO_DEEP if the parent has level 3 (checked third)")
    private static void promise2ParentOfLevelThree() {
        Statute x = small();
        due("below level 3", x.addProvision(4, 1), TOO_DEEP);
        due("below level 2", x.addProvision(2, 1), 5);
        due("below the new one of level 3", x.addProvision(5, 1), TOO_DEEP);
        due("below level 1", x.addProvision(1, 1), 6);
        due("paths", paths(x, -1), "1 1(1) 1(1)(1) 1(1)(2) 1(2) 2 2(1)");
    }

    @Says({"FULL if there are already 30 provisions (checked fourth)", "It has at most 30 provisions"})
    private static void promise2ThirtyProvisions() {
        Statute x = sections(29);
        due("the thirtieth", x.addProvision(-1, 1), 29);
        due("a section too many", x.addProvision(-1, 1), FULL);
        due("a child too many", x.addProvision(0, 1), FULL);
        due("originalCount()", x.originalCount(), 30);
        Statute y = sections(29);
        due("the thirtieth as a child", y.addProvision(28, 1), 29);
        due("a grandchild too many", y.addProvision(29, 1), FULL);
        y.clear();
        due("room after clear()", y.addProvision(-1, 1), 0);
    }

    @Says(FIRST_ERROR)
    private static void promise2FirstErrorCounts() {
        Statute x = small();
        due("parent before text", x.addProvision(9, 10000), NO_SUCH_PROVISION);
        due("text before depth", x.addProvision(4, 10000), BAD_VALUE);
        Statute full = thirty();
        due("parent before full", full.addProvision(30, 1), NO_SUCH_PROVISION);
        due("parent before text and full", full.addProvision(-2, -1), NO_SUCH_PROVISION);
        due("text before full", full.addProvision(-1, -1), BAD_VALUE);
        due("depth before full", full.addProvision(2, 1), TOO_DEEP);
        due("text before depth and full", full.addProvision(2, -1), BAD_VALUE);
    }

    @Says("gets as number 1 plus the greatest number of its siblings, or 1 if it has none, and no suffix")
    private static void promise2NumberOfTheLast() {
        Statute x = new Statute();
        x.addProvision(-1, 0);
        due("the first section", paths(x, -1), "1");
        x.addProvision(0, 0);
        x.addProvision(1, 0);
        due("the first children", paths(x, -1), "1 1(1) 1(1)(1)");
        x.insertProvision(0, 0);
        x.insertProvision(1, 0);
        x.insertProvision(2, 0);
        x.addProvision(-1, 0);
        x.addProvision(0, 0);
        x.addProvision(1, 0);
        due("after one with a suffix", paths(x, -1), "1 1(1) 1(1)(1) 1(1)(1A) 1(1)(2) 1(1A) 1(2) 1A 2");
        x.addProvision(3, 0);
        due("other parents' children do not count", path(x, -1, 8), "1A(1)");
    }

    /**
     * Thirty provisions are too few for a number above 99, so that no run of calls can show its refusal here;
     * what can be shown is that every number up to thirty has a label.
     */
    @Says("If that number would be greater than 99, there is no label.")
    private static void promise2NumbersBelowTheLimit() {
        Statute x = sections(30);
        due("the last section", path(x, -1, 29), "30");
        Statute y = sections(1);
        for (int child = 1; child < 30; child++) {
            due("a child", y.addProvision(0, 0), child);
        }
        due("the last subsection", path(y, -1, 29), "1(29)");
        Statute z = sections(1);
        z.addProvision(0, 0);
        for (int child = 2; child < 30; child++) {
            due("a grandchild", z.addProvision(1, 0), child);
        }
        due("the last paragraph", path(z, -1, 29), "1(1)(28)");
    }

    @Says("by number first, then by suffix in dictionary order")
    private static void promise2TenComesAfterNine() {
        Statute x = sections(11);
        for (int child = 0; child < 10; child++) {
            x.addProvision(0, 0);
        }
        due("paths", paths(x, -1), "1 1(1) 1(2) 1(3) 1(4) 1(5) 1(6) 1(7) 1(8) 1(9) 1(10) 2 3 4 5 6 7 8 9 10 11");
    }

    @Says("which have the identifiers 0, 1, 2 and so on in the order of their creation")
    private static void promise2IdentifiersByCreation() {
        Statute x = small();
        due("between the others", x.insertProvision(0, 5), 5);
        due("at the end", x.addProvision(-1, 6), 6);
        int[] origins = {0, 2, 4, 3, 5, 1, 6};
        for (int index = 0; index < 7; index++) {
            due("originAt(-1, " + index + ")", x.originAt(-1, index), origins[index]);
        }
    }

    @Says("all descendants of a provision come before its next sibling")
    private static void promise2DocumentOrder() {
        Statute x = sections(2);
        x.addProvision(1, 5);
        x.addProvision(0, 6);
        x.addProvision(2, 7);
        x.addProvision(3, 8);
        due("the whole text", whole(x, -1), "1:0 1(1):6 1(1)(1):8 2:1 2(1):5 2(1)(1):7");
    }

    @Says(STATE_STAYS)
    private static void promise2RefusedCallsChangeNothing() {
        refused("a parent that is none", NO_SUCH_PROVISION, x -> x.addProvision(5, 1));
        refused("a text too large", BAD_VALUE, x -> x.addProvision(-1, 10000));
        refused("a text too small", BAD_VALUE, x -> x.addProvision(0, -1));
        refused("too deep", TOO_DEEP, x -> x.addProvision(4, 1));
        refusedWhenFull("full", FULL, x -> x.addProvision(-1, 1));
    }

    // ---- promise 3: insertProvision

    @Says("Returns the identifier of the new provision; NO_SUCH_PROVISION (checked first)")
    private static void promise3ProvisionThatIsNone() {
        due("provision 0 of an empty text", new Statute().insertProvision(0, 1), NO_SUCH_PROVISION);
        Statute x = small();
        for (int provision : new int[] {MIN, -9, -2, -1, 5, 6, 30, MAX}) {
            due("provision " + provision, x.insertProvision(provision, 1), NO_SUCH_PROVISION);
        }
        due("the greatest identifier", x.insertProvision(4, 1), 5);
        due("the smallest identifier", x.insertProvision(0, 1), 6);
    }

    @Says({"BAD_VALUE if text is out of range (checked second)", "`text`: the text, 0 to 9999"})
    private static void promise3TextOutOfRange() {
        Statute x = sections(2);
        for (int text : NO_TEXTS) {
            due("text " + text, x.insertProvision(0, text), BAD_VALUE);
        }
        due("text 0", x.insertProvision(0, 0), 2);
        due("text 9999", x.insertProvision(1, 9999), 3);
        due("the whole text", whole(x, -1), "1:0 1A:0 2:1 2A:9999");
    }

    @Says("FULL if there are already 30 provisions (checked third)")
    private static void promise3ThirtyProvisions() {
        Statute x = sections(29);
        due("the thirtieth", x.insertProvision(5, 1), 29);
        due("one too many", x.insertProvision(6, 1), FULL);
        due("originalCount()", x.originalCount(), 30);
    }

    @Says(FIRST_ERROR)
    private static void promise3FirstErrorCounts() {
        Statute x = small();
        x.insertProvision(0, 1);
        due("provision before text", x.insertProvision(6, -1), NO_SUCH_PROVISION);
        due("text before label", x.insertProvision(0, -1), BAD_VALUE);
        Statute full = sections(29);
        full.insertProvision(5, 1);
        due("provision before full", full.insertProvision(30, 1), NO_SUCH_PROVISION);
        due("text before full", full.insertProvision(6, 10000), BAD_VALUE);
        due("full before label", full.insertProvision(5, 1), FULL);
    }

    @Says({"after 12 and before 13 the new label is 12A", "after 12A and before 12B it is 12AA",
        "after 12 and before 12A there is no label"})
    private static void promise3TheExamplesOfLabels() {
        Statute x = sections(13);
        int a = x.insertProvision(11, 1);
        due("after 12 and before 13", path(x, -1, 12), "12A");
        int b = x.insertProvision(a, 1);
        due("after 12A and before 13", path(x, -1, 13), "12B");
        x.insertProvision(a, 1);
        due("after 12A and before 12B", path(x, -1, 13), "12AA");
        due("after 12 and before 12A", x.insertProvision(11, 1), NO_LABEL);
        due("after 12B and before 13", x.insertProvision(b, 1), 16);
        due("its path", path(x, -1, 15), "12C");
    }

    @Says("A provision that is placed directly after a sibling p gets the number of p.")
    private static void promise3NumberOfTheSibling() {
        Statute x = new Statute();
        x.addProvision(-1, 0);
        x.addProvision(0, 0);
        x.addProvision(1, 0);
        x.insertProvision(0, 0);
        x.insertProvision(1, 0);
        x.insertProvision(2, 0);
        due("after the last of each level", paths(x, -1), "1 1(1) 1(1)(1) 1(1)(1A) 1(1A) 1A");
        Statute y = sections(10);
        y.insertProvision(8, 0);
        y.insertProvision(9, 0);
        due("after 9", path(y, -1, 9), "9A");
        due("after 10", path(y, -1, 11), "10A");
    }

    @Says("if the next sibling after p has the same number as p, before the suffix of that sibling")
    private static void promise3OnlyTheNextSiblingBounds() {
        Statute x = sections(2);
        x.addProvision(0, 0);
        x.addProvision(1, 0);
        x.insertProvision(3, 0);
        due("a cousin 2(1A) is no sibling", x.insertProvision(2, 0), 5);
        due("paths", paths(x, -1), "1 1(1) 1(1A) 2 2(1) 2(1A)");
        Statute y = sections(2);
        y.insertProvision(1, 0);
        due("2A has another number than 1", y.insertProvision(0, 0), 3);
        due("paths then", paths(y, -1), "1 1A 2 2A");
        due("the next one has the number", y.insertProvision(0, 0), NO_LABEL);
    }

    @Says("Its suffix is the shortest one that comes after the suffix of p")
    private static void promise3ShortestSuffix() {
        Statute x = sections(1);
        int last = 0;
        for (char letter = 'A'; letter <= 'Z'; letter++) {
            last = x.insertProvision(last, 0);
            due("the next letter", path(x, -1, last), "1" + letter);
        }
        last = x.insertProvision(last, 0);
        due("behind 1Z", path(x, -1, 27), "1ZA");
        last = x.insertProvision(last, 0);
        due("behind 1ZA", path(x, -1, 28), "1ZB");
        due("after 1Z and before 1ZA", x.insertProvision(26, 0), NO_LABEL);
        x.insertProvision(last, 0);
        due("behind 1ZB", path(x, -1, 29), "1ZC");
    }

    @Says("If no such suffix with at most 3 letters exists, there is no label.")
    private static void promise3ThreeLettersAtMost() {
        Statute x = sections(1);
        int a = x.insertProvision(0, 0);
        int b = x.insertProvision(a, 0);
        int aa = x.insertProvision(a, 0);
        int ab = x.insertProvision(aa, 0);
        int aaa = x.insertProvision(aa, 0);
        due("paths", paths(x, -1), "1 1A 1AA 1AAA 1AB 1B");
        int aab = x.insertProvision(aaa, 0);
        due("after 1AAA and before 1AAB", x.insertProvision(aaa, 0), NO_LABEL);
        due("after 1AA and before 1AAA", x.insertProvision(aa, 0), NO_LABEL);
        due("after 1A and before 1AA", x.insertProvision(a, 0), NO_LABEL);
        due("after 1 and before 1A", x.insertProvision(0, 0), NO_LABEL);
        due("after 1AAB and before 1AB", x.insertProvision(aab, 0), 7);
        due("after 1AB and before 1B", x.insertProvision(ab, 0), 8);
        due("after 1B", x.insertProvision(b, 0), 9);
        due("paths then", paths(x, -1), "1 1A 1AA 1AAA 1AAB 1AAC 1AB 1AC 1B 1C");
    }

    @Says("where a suffix comes before every longer suffix that begins with it")
    private static void promise3ShorterSuffixFirst() {
        Statute x = small();
        int a = x.insertProvision(4, 0);
        x.insertProvision(a, 0);
        int aa = x.insertProvision(a, 0);
        x.insertProvision(aa, 0);
        x.insertProvision(aa, 0);
        due("paths", paths(x, -1),
            "1 1(1) 1(1)(1) 1(1)(1A) 1(1)(1AA) 1(1)(1AAA) 1(1)(1AB) 1(1)(1B) 1(2) 2");
    }

    @Says("Places a new provision directly after a provision of the original text, as its sibling.")
    private static void promise3BehindTheDescendants() {
        Statute x = small();
        x.insertProvision(0, 5);
        x.insertProvision(2, 6);
        due("the whole text", whole(x, -1), "1:10 1(1):12 1(1)(1):14 1(1A):6 1(2):13 1A:5 2:11");
        due("level of 1A", x.levelAt(-1, 5), 1);
        due("level of 1(1A)", x.levelAt(-1, 3), 2);
    }

    @Says(STATE_STAYS)
    private static void promise3RefusedCallsChangeNothing() {
        refused("a provision that is none", NO_SUCH_PROVISION, x -> x.insertProvision(5, 1));
        refused("a section's parent", NO_SUCH_PROVISION, x -> x.insertProvision(-1, 1));
        refused("a text too large", BAD_VALUE, x -> x.insertProvision(0, 10000));
        refusedWhenFull("full", FULL, x -> x.insertProvision(29, 1));
        Maker maker = () -> {
            Statute x = sections(2);
            x.insertProvision(0, 1);
            return x;
        };
        changesNothing("1, 1A and 2", maker, "without a label", NO_LABEL, x -> x.insertProvision(0, 9));
    }

    // ---- promise 4: setText

    @Says("Returns the previous text; NO_SUCH_PROVISION (checked first)")
    private static void promise4ProvisionThatIsNone() {
        due("provision 0 of an empty text", new Statute().setText(0, 1), NO_SUCH_PROVISION);
        Statute x = small();
        for (int provision : new int[] {MIN, -9, -2, -1, 5, 6, 30, MAX}) {
            due("provision " + provision, x.setText(provision, 1), NO_SUCH_PROVISION);
        }
        due("the greatest identifier", x.setText(4, 1), 14);
        due("the smallest identifier", x.setText(0, 1), 10);
        amend(x, 0, "insert 2 9");
        due("one that an amendment created has no identifier", x.setText(5, 1), NO_SUCH_PROVISION);
    }

    @Says({"BAD_VALUE if text is out of range", "`text`: the new text, 0 to 9999"})
    private static void promise4TextOutOfRange() {
        Statute x = small();
        for (int text : NO_TEXTS) {
            due("text " + text, x.setText(3, text), BAD_VALUE);
        }
        due("text 0", x.setText(3, 0), 13);
        due("text 9999", x.setText(3, 9999), 0);
        due("the same text again", x.setText(3, 9999), 9999);
        due("the whole text", whole(x, -1), "1:10 1(1):12 1(1)(1):14 1(2):9999 2:11");
    }

    @Says(FIRST_ERROR)
    private static void promise4FirstErrorCounts() {
        due("provision before text", small().setText(5, 10000), NO_SUCH_PROVISION);
        due("provision before text, below", small().setText(-1, -1), NO_SUCH_PROVISION);
    }

    @Says("Changes the text of a provision of the original text.")
    private static void promise4TheIdentifiedOneAlone() {
        Statute x = small();
        x.insertProvision(0, 15);
        for (int provision = 0; provision < 6; provision++) {
            due("provision " + provision, x.setText(provision, 90 + provision), 10 + provision);
        }
        due("the whole text", whole(x, -1), "1:90 1(1):92 1(1)(1):94 1(2):93 1A:95 2:91");
        due("on day 0 too", x.textAt(0, 5), 91);
    }

    @Says(STATE_STAYS)
    private static void promise4RefusedCallsChangeNothing() {
        refused("a provision that is none", NO_SUCH_PROVISION, x -> x.setText(5, 1));
        refused("a text too large", BAD_VALUE, x -> x.setText(0, 10000));
        refused("a text too small", BAD_VALUE, x -> x.setText(4, -1));
    }

    // ---- promise 5: addReference

    @Says("NO_SUCH_PROVISION if one of them does not exist (checked first)")
    private static void promise5OneThatIsNone() {
        due("in an empty text", new Statute().addReference(0, 0), NO_SUCH_PROVISION);
        Statute x = small();
        for (int provision : new int[] {MIN, -9, -2, -1, 5, 6, 30, MAX}) {
            due("provision " + provision, x.addReference(provision, 0), NO_SUCH_PROVISION);
            due("target " + provision, x.addReference(0, provision), NO_SUCH_PROVISION);
            due("both " + provision, x.addReference(provision, provision), NO_SUCH_PROVISION);
        }
        due("the greatest identifiers", x.addReference(4, 4), 1);
        due("the smallest identifiers", x.addReference(0, 0), 1);
    }

    @Says({"FULL if the provision has 4 references", "can have up to 4 references"})
    private static void promise5FourReferences() {
        Statute x = small();
        for (int count = 1; count <= 4; count++) {
            due("reference " + count, x.addReference(3, count - 1), count);
        }
        due("a fifth", x.addReference(3, 4), FULL);
        due("the count", x.referenceCountAt(-1, 3), 4);
        due("the first one of another provision", x.addReference(4, 3), 1);
        due("the last one is as it was", x.referenceAt(-1, 3, 3), 3);
    }

    @Says("can have up to 4 references")
    private static void promise5FourReferencesOfEach() {
        Statute x = sections(30);
        for (int provision = 0; provision < 30; provision++) {
            for (int count = 1; count <= 4; count++) {
                due("reference " + count, x.addReference(provision, (provision + count) % 30), count);
            }
        }
        for (int provision = 0; provision < 30; provision++) {
            due("the first", x.referenceAt(-1, provision, 0), (provision + 1) % 30);
            due("the fourth", x.referenceAt(-1, provision, 3), (provision + 4) % 30);
            due("a fifth", x.addReference(provision, 0), FULL);
        }
    }

    @Says(FIRST_ERROR)
    private static void promise5FirstErrorCounts() {
        Statute x = small();
        for (int count = 0; count < 4; count++) {
            x.addReference(0, 1);
        }
        due("target before full", x.addReference(0, 5), NO_SUCH_PROVISION);
        due("target before full, below", x.addReference(0, -1), NO_SUCH_PROVISION);
    }

    @Says("A second reference to the same provision is allowed.")
    private static void promise5TheSameTargetTwice() {
        Statute x = small();
        due("the first", x.addReference(1, 0), 1);
        due("the second", x.addReference(1, 0), 2);
        due("where the first leads", x.referenceAt(-1, 4, 0), 0);
        due("where the second leads", x.referenceAt(-1, 4, 1), 0);
    }

    @Says("which may be the same one")
    private static void promise5ToItself() {
        Statute x = small();
        due("to itself", x.addReference(4, 4), 1);
        due("where it leads", x.referenceAt(-1, 2, 0), 2);
    }

    @Says(STATE_STAYS)
    private static void promise5RefusedCallsChangeNothing() {
        refused("a provision that is none", NO_SUCH_PROVISION, x -> x.addReference(5, 0));
        refused("a target that is none", NO_SUCH_PROVISION, x -> x.addReference(0, 5));
        refusedWhenFull("full", FULL, x -> x.addReference(0, 29));
    }

    // ---- promise 6: clear

    @Says("Returns the number of provisions that the original text had.")
    private static void promise6WhatItAnswers() {
        due("of an empty text", new Statute().clear(), 0);
        due("of one", sections(1).clear(), 1);
        Statute x = thirtyAnd(30);
        due("of thirty, those of amendments not counted", x.clear(), 30);
        due("again", x.clear(), 0);
    }

    @Says("Removes the original text and all amendments, and empties all shelves.")
    private static void promise6AllIsRemoved() {
        Statute x = scene("1(1)");
        x.newShelf(2, 3, 10);
        due("clear()", x.clear(), 5);
        due("originalCount()", x.originalCount(), 0);
        due("amendmentCount()", x.amendmentCount(), 0);
        due("provisionCount(9999)", x.provisionCount(9999), 0);
        due("conflictCount(9999)", x.conflictCount(9999), 0);
        for (int shelf = 0; shelf < 3; shelf++) {
            due("shelved", x.shelved(shelf, 0), MISSING);
            due("shelved beyond", x.shelved(shelf, 10), MISSING);
        }
    }

    @Says("Removes the original text and all amendments, and empties all shelves.")
    private static void promise6NothingComesBack() {
        Statute x = scene("");
        x.clear();
        due("the first identifier", x.addProvision(-1, 5), 0);
        due("its references", x.referenceCountAt(-1, 0), 0);
        due("the text of day 9999", whole(x, 9999), "1:5");
        due("the first amendment", amend(x, 9, "replace 1 6"), 0);
        due("its instructions", x.instructionCount(0), 1);
        due("day 8", x.textAt(8, 0), 5);
        due("day 9", x.textAt(9, 0), 6);
    }

    @Says("Removes the original text and all amendments, and empties all shelves.")
    private static void promise6RoomForAllAgain() {
        Statute x = fullScene("");
        x.clear();
        for (int provision = 0; provision < 30; provision++) {
            due("provision " + provision, x.addProvision(-1, 0), provision);
        }
        for (int amendment = 0; amendment < 8; amendment++) {
            due("amendment " + amendment, amend(x, 0, "repeal 9"), amendment);
        }
        due("a reference", x.addReference(0, 29), 1);
    }

    @Says("Removes the original text and all amendments, and empties all shelves.")
    private static void promise6InputAndSnapshotStay() {
        Statute x = scene("1(1)");
        x.clear();
        due("the input", x.clearInput(), 4);
        due("the snapshot", x.restoreSnapshot(), 1);
        due("its text", whole(x, -1), "1:70");
    }

    // ---- promise 7: originalCount

    @Says("Returns 0 to 30.")
    private static void promise7ZeroToThirty() {
        Statute x = new Statute();
        for (int count = 0; count < 30; count++) {
            due("count", x.originalCount(), count);
            x.addProvision(-1, 0);
        }
        due("count", x.originalCount(), 30);
        x.addProvision(-1, 0);
        due("count after a refused one", x.originalCount(), 30);
    }

    @Says("Returns the number of provisions of the original text.")
    private static void promise7AmendmentsDoNotCount() {
        Statute x = small();
        amend(x, 0, "insert 1 1;add 1 1;repeal 2");
        due("with an amendment", x.originalCount(), 5);
        x.insertProvision(1, 1);
        due("with an inserted one", x.originalCount(), 6);
    }

    @Says(ONLY_ANSWERS)
    private static void promise7OnlyAnswers() {
        onlyAnswers("originalCount", x -> x.originalCount());
    }

    // ---- promise 8: appendCharacter

    @Says({"BAD_VALUE if character is out of range (checked first)", "`character`: the character code, 32 to 126"})
    private static void promise8CharacterOutOfRange() {
        Statute x = new Statute();
        for (int character : new int[] {MIN, -1, 0, 9, 10, 31, 127, 128, 255, 256 + 'a', 65536 + 'a', MAX}) {
            due("character " + character, x.appendCharacter(character), BAD_VALUE);
        }
        for (int character = 32; character <= 126; character++) {
            due("character " + character, x.appendCharacter(character), character - 31);
        }
        due("clearInput()", x.clearInput(), 95);
    }

    @Says({"FULL if the input has 120 characters", "a buffer of at most 120 characters"})
    private static void promise8HundredAndTwentyCharacters() {
        Statute x = new Statute();
        for (int length = 1; length <= 120; length++) {
            due("character " + length, x.appendCharacter('a'), length);
        }
        due("one too many", x.appendCharacter('a'), FULL);
        due("and another", x.appendCharacter('b'), FULL);
        due("clearInput()", x.clearInput(), 120);
        due("after it", x.appendCharacter('a'), 1);
    }

    @Says(FIRST_ERROR)
    private static void promise8FirstErrorCounts() {
        Statute x = new Statute();
        type(x, "1".repeat(120));
        due("value before full, below", x.appendCharacter(31), BAD_VALUE);
        due("value before full, above", x.appendCharacter(127), BAD_VALUE);
    }

    @Says("Returns the new length of the input")
    private static void promise8LengthBeginsAnew() {
        Statute x = small();
        due("first", x.appendCharacter('1'), 1);
        x.find(-1);
        due("after find", x.appendCharacter('1'), 1);
        x.addAmendment(0);
        due("after addAmendment", x.appendCharacter('1'), 1);
        x.clearInput();
        due("after clearInput", x.appendCharacter('1'), 1);
        x.clear();
        due("after clear it goes on", x.appendCharacter('1'), 2);
        x.saveSnapshot();
        x.restoreSnapshot();
        due("after a snapshot it goes on", x.appendCharacter('1'), 3);
    }

    @Says(STATE_STAYS)
    private static void promise8RefusedCallsChangeNothing() {
        refused("a character too small", BAD_VALUE, x -> x.appendCharacter(31));
        refused("a character too large", BAD_VALUE, x -> x.appendCharacter(127));
        refusedWhenFull("full", FULL, x -> x.appendCharacter('1'));
    }

    // ---- promise 9: clearInput

    @Says("Returns the length that the input had.")
    private static void promise9EmptyAndFull() {
        Statute x = new Statute();
        due("of an empty input", x.clearInput(), 0);
        x.appendCharacter('1');
        due("of one character", x.clearInput(), 1);
        due("again", x.clearInput(), 0);
        type(x, "1".repeat(120));
        due("of a full input", x.clearInput(), 120);
        due("then", x.clearInput(), 0);
    }

    @Says("Clears the input.")
    private static void promise9NothingOfItStays() {
        Statute x = small();
        type(x, "1(1)");
        x.clearInput();
        due("find", x.find(-1), SYNTAX_ERROR);
        type(x, "1(1)");
        x.clearInput();
        due("the new input alone", look(x, -1, "2"), 4);
        type(x, "repeal 1;repeal 2");
        x.clearInput();
        due("the new amendment alone", amend(x, 0, "repeal 2"), 0);
        due("its instructions", x.instructionCount(0), 1);
    }

    // ---- promise 10: addAmendment

    @Says({"NO_SUCH_DAY if day is out of range (checked first)", "`day`: the commencement day, 0 to 9999"})
    private static void promise10DayOutOfRange() {
        Statute x = small();
        for (int day : NO_DAYS) {
            due("day " + day, amend(x, day, "repeal 1"), NO_SUCH_DAY);
        }
        due("day -1", amend(x, -1, "repeal 1"), NO_SUCH_DAY);
        due("day 0", amend(x, 0, "repeal 1"), 0);
        due("day 9999", amend(x, 9999, "repeal 2"), 1);
        due("the first one's day", x.setCommencement(0, 0), 0);
        due("the second one's day", x.setCommencement(1, 0), 9999);
    }

    @Says({"FULL if there are already 8 amendments (checked second)", "At most 8 amendments are stored, numbered from 0."})
    private static void promise10EightAmendments() {
        Statute x = small();
        for (int number = 0; number < 8; number++) {
            due("amendment " + number, amend(x, number, "replace 1 " + number), number);
        }
        due("a ninth", amend(x, 9, "replace 1 99"), FULL);
        due("amendmentCount()", x.amendmentCount(), 8);
        due("the text of day 9999", x.textAt(9999, 0), 7);
        x.removeLastAmendment();
        due("room again", amend(x, 9, "replace 1 98"), 7);
        due("the text then", x.textAt(9999, 0), 98);
    }

    @Says(FIRST_ERROR)
    private static void promise10FirstErrorCounts() {
        Statute x = small();
        due("day before syntax", amend(x, -1, "x"), NO_SUCH_DAY);
        for (int number = 0; number < 8; number++) {
            amend(x, 0, "repeal 1");
        }
        due("day before full", amend(x, 10000, "repeal 1"), NO_SUCH_DAY);
        due("day before full and syntax", amend(x, 10000, "x"), NO_SUCH_DAY);
        due("full before syntax", amend(x, 0, "x"), FULL);
        due("full before syntax of an empty input", x.addAmendment(0), FULL);
    }

    @Says({"Reads an amendment from the input, stores it and clears the input.",
        "except that addAmendment and find always clear the input"})
    private static void promise10InputIsAlwaysCleared() {
        Statute x = small();
        amend(x, 0, "repeal 1");
        due("after a stored one", x.clearInput(), 0);
        amend(x, -1, "repeal 1");
        due("after a day too small", x.clearInput(), 0);
        amend(x, 10000, "repeal 1");
        due("after a day too large", x.clearInput(), 0);
        amend(x, 0, "repeal 1;");
        due("after a syntax error", x.clearInput(), 0);
        for (int number = 1; number < 8; number++) {
            amend(x, 0, "repeal 1");
        }
        due("the ninth", amend(x, 0, "repeal 1"), FULL);
        due("after it", x.clearInput(), 0);
    }

    private static void syntax(String text, int position) {
        due("addAmendment of '" + text + "'", amend(new Statute(), 0, text), SYNTAX_ERROR - position);
    }

    private static void valid(String text) {
        due("addAmendment of '" + text + "'", amend(new Statute(), 0, text), 0);
    }

    @Says("Its syntax is: one or more instructions, separated by single semicolons.")
    private static void promise10OneOrMoreInstructions() {
        syntax("", 0);
        syntax(";", 0);
        syntax(";repeal 1", 0);
        valid("repeal 1");
        syntax("repeal 1;", 9);
        syntax("repeal 1;;", 9);
        syntax("repeal 1;;repeal 1", 9);
        syntax("repeal 1,repeal 1", 8);
        syntax("repeal 1repeal 1", 8);
        valid("repeal 1;repeal 1");
        syntax("repeal 1;repeal 1;", 18);
        Statute x = new Statute();
        due("the most instructions", amend(x, 0, repeated("add 1 1", 15)), 0);
        due("their number", x.instructionCount(0), 15);
    }

    @Says("An instruction is one of the following six, with exactly one space between its parts.")
    private static void promise10OneSpaceBetweenParts() {
        syntax(" ", 0);
        syntax(" repeal 1", 0);
        syntax("repeal1", 6);
        syntax("repeal  1", 7);
        syntax("repeal 1 ", 8);
        syntax("repeal 1 ;repeal 1", 8);
        syntax("repeal 1; repeal 1", 9);
        syntax("add 11", 6);
        syntax("add 1(1)1", 8);
        syntax("add 1  1", 6);
        syntax("add 1 1 ", 7);
        syntax("move 1  2", 7);
        syntax("move 1 2 ", 8);
        syntax("insert_1 1", 6);
        syntax("insert 1\"1", 8);
    }

    @Says("An instruction is one of the following six")
    private static void promise10SixWords() {
        for (String word : new String[] {"insert", "add", "replace", "repeal", "move", "renumber"}) {
            for (int length = 0; length < word.length(); length++) {
                String begin = word.substring(0, length);
                syntax(begin, length);
                syntax(begin + "x", length);
                syntax(begin + " 1", length);
                syntax("add 1 1;" + begin, 8 + length);
                syntax("add 1 1;" + begin + "x", 8 + length);
            }
            syntax(word, word.length());
            syntax(word + "s 1", word.length());
            syntax(word + " ", word.length() + 1);
            syntax(word.toUpperCase() + " 1", 0);
        }
        valid("insert 1 1;add 1 1;replace 1 1;repeal 1;move 1 1;renumber 1");
        syntax("remove 1", 2);
        syntax("repel 1", 4);
        syntax("delete 1", 0);
    }

    @Says({"insert P N: a new provision", "add P N: a new provision", "replace P N: the text of P becomes N."})
    private static void promise10PathThenNumber() {
        for (String word : new String[] {"insert", "add", "replace"}) {
            int behind = word.length() + 2;
            syntax(word + " 1", behind);
            syntax(word + " 1;", behind);
            syntax(word + " 1 ", behind + 1);
            syntax(word + " 1 A", behind + 1);
            syntax(word + " 1 ;", behind + 1);
            syntax(word + " 1 1(1)", behind + 2);
            syntax(word + " 1 1 1", behind + 2);
            valid(word + " 1 1");
            valid(word + " 1(1)(1) 1");
        }
    }

    @Says({"repeal P: P and all its descendants become repealed.", "renumber P: the repealed children"})
    private static void promise10PathAlone() {
        for (String word : new String[] {"repeal", "renumber"}) {
            int behind = word.length() + 2;
            syntax(word + " ;", behind - 1);
            syntax(word + " 1 1", behind);
            syntax(word + " 1 ", behind);
            valid(word + " 1");
            valid(word + " 1(1)(1)");
        }
    }

    @Says("move P Q: P, with its descendants")
    private static void promise10TwoPaths() {
        syntax("move 1", 6);
        syntax("move 1;", 6);
        syntax("move 1 ", 7);
        syntax("move 1 0", 7);
        syntax("move 1 A", 7);
        syntax("move 1 100", 9);
        syntax("move 1 2(", 9);
        syntax("move 1 2()", 9);
        syntax("move 1 2(3", 10);
        syntax("move 1 2(3)(4)(", 14);
        syntax("move 1 2 3", 8);
        valid("move 1 2");
        valid("move 1(1)(1) 99ZZZ(99ZZZ)(99ZZZ)");
        valid("move 1 2(1)");
    }

    @Says("N stands for one to four decimal digits")
    private static void promise10OneToFourDigits() {
        syntax("add 1 ", 6);
        valid("add 1 0");
        valid("add 1 00");
        valid("add 1 000");
        valid("add 1 0000");
        valid("add 1 9999");
        syntax("add 1 00000", 10);
        syntax("add 1 12345", 10);
        syntax("add 1 10000", 10);
        syntax("add 1 -1", 6);
        syntax("add 1 +1", 6);
        syntax("add 1 /", 6);
        syntax("add 1 :", 6);
        syntax("add 1 1:", 7);
        syntax("add 1 1/", 7);
        syntax("add 1 1A", 7);
        syntax("add 1 1.0", 7);
        Statute x = sections(1);
        amend(x, 0, "replace 1 0");
        amend(x, 1, "replace 1 0009");
        amend(x, 2, "replace 1 90");
        amend(x, 3, "replace 1 987");
        amend(x, 4, "replace 1 9999");
        int[] texts = {0, 9, 90, 987, 9999};
        for (int day = 0; day < 5; day++) {
            due("the text of day " + day, x.textAt(day, 0), texts[day]);
        }
    }

    @Says("the number of a label has one or two decimal digits, and the first one is not 0")
    private static void promise10DigitsOfALabel() {
        syntax("repeal 0", 7);
        syntax("repeal 01", 7);
        syntax("repeal 00", 7);
        valid("repeal 1");
        valid("repeal 9");
        valid("repeal 10");
        valid("repeal 99");
        syntax("repeal 100", 9);
        syntax("repeal 999", 9);
        syntax("repeal /", 7);
        syntax("repeal :", 7);
        syntax("repeal 1/", 8);
        syntax("repeal 1:", 8);
        syntax("repeal 1(0)", 9);
        syntax("repeal 1(01)", 9);
        syntax("repeal 1(100)", 11);
        syntax("repeal 1(1)(0)", 12);
        syntax("repeal 1(1)(100)", 14);
        valid("repeal 10(20)(30)");
        valid("repeal 99(99)(99)");
        syntax("repeal A", 7);
        syntax("repeal 1(A)", 9);
        syntax("repeal 1A1", 9);
    }

    @Says("A label consists of a number from 1 to 99 and a suffix of 0 to 3 letters A to Z.")
    private static void promise10LettersOfALabel() {
        valid("repeal 1A");
        valid("repeal 1ZZ");
        valid("repeal 1ABC");
        valid("repeal 99ZZZ(99ZZZ)(99ZZZ)");
        syntax("repeal 1ABCD", 11);
        syntax("repeal 1(1ABCD)", 13);
        syntax("repeal 1(1)(1ABCD)", 16);
        syntax("repeal 1@", 8);
        syntax("repeal 1[", 8);
        syntax("repeal 1a", 8);
        syntax("repeal 1Aa", 9);
        syntax("repeal 1A@", 9);
        syntax("repeal 1A[", 9);
    }

    @Says("There are at most two pairs of parentheses in a path.")
    private static void promise10TwoPairsOfParentheses() {
        valid("repeal 1(1)");
        valid("repeal 1(1)(1)");
        syntax("repeal 1(1)(1)(1)", 14);
        syntax("repeal 1(1)(1)(", 14);
        syntax("repeal (1)", 7);
        syntax("repeal 1(", 9);
        syntax("repeal 1()", 9);
        syntax("repeal 1((1))", 9);
        syntax("repeal 1(1", 10);
        syntax("repeal 1(1(1))", 10);
        syntax("repeal 1(1;", 10);
        syntax("repeal 1)", 8);
        syntax("repeal 1(1))", 11);
        syntax("repeal 1(1)1", 11);
        syntax("repeal 1(1)A", 11);
        syntax("repeal 1(1)(", 12);
        syntax("repeal 1(1)()", 12);
        syntax("repeal 1(1)(1", 13);
        syntax("repeal 1(1) (1)", 11);
        syntax("repeal 1[1]", 8);
    }

    @Says("Nothing else may occur.")
    private static void promise10NothingElse() {
        syntax("repeal 1.", 8);
        syntax("repeal 1!", 8);
        syntax("repeal 1~", 8);
        syntax("repeal #1", 7);
        syntax("repeal 1 and 2", 8);
        syntax("Repeal 1", 0);
        syntax("~", 0);
        syntax("1", 0);
        syntax("1(1)", 0);
    }

    @Says({"the smallest index k such that no valid input starts with the first k + 1 characters of it",
        "SYNTAX_ERROR - k if the input is not valid and k is its error position"})
    private static void promise10FirstErrorPosition() {
        syntax("repeal 0;repeal 0", 7);
        syntax("repeal 1;repeal 0", 16);
        syntax("x", 0);
        syntax(repeated("add 1 1", 14) + ";add 1 1x", 119);
        syntax("x" + "1".repeat(119), 0);
        Statute x = new Statute();
        amend(x, 0, "repeal 1;repeal 2;repeal 3");
        due("after a longer input", amend(x, 0, "repeal 1;rep"), SYNTAX_ERROR - 12);
        due("after a longer input", amend(x, 0, "repeal"), SYNTAX_ERROR - 6);
        due("after a longer input", x.addAmendment(0), SYNTAX_ERROR);
    }

    @Says("if there is no such index, it is the length of the input")
    private static void promise10LengthAsErrorPosition() {
        String text = "insert 12AB(34C)(5) 1234;move 1(2) 3;renumber 9";
        int[] ends = {21, 22, 23, 24, 36, 47};
        for (int length = 0; length <= text.length(); length++) {
            boolean whole = false;
            for (int end : ends) {
                whole |= end == length;
            }
            if (whole) {
                valid(text.substring(0, length));
            } else {
                syntax(text.substring(0, length), length);
            }
        }
    }

    @Says("The length limit of the buffer is not part of this syntax.")
    private static void promise10LengthLimitIsNoSyntax() {
        syntax("add 1 1;".repeat(15), 120);
        syntax("repeal 1;".repeat(13) + "rep", 120);
        syntax("repeal 1;".repeat(13) + "rex", 119);
        syntax(repeated("repeal 1", 12) + ";replace 1(1)", 120);
        Statute x = new Statute();
        due("120 characters", amend(x, 0, "add 1 1;".repeat(14) + "add 1 11"), 0);
        due("their instructions", x.instructionCount(0), 15);
    }

    @Says(STATE_STAYS)
    private static void promise10RefusedCallsChangeNothing() {
        Maker maker = () -> scene("");
        changesNothing("a scene without input", maker, "a day too small", NO_SUCH_DAY, x -> amend(x, -1, "repeal 1"));
        changesNothing("a scene without input", maker, "a day too large", NO_SUCH_DAY, x -> amend(x, 10000, "repeal 1"));
        changesNothing("a scene without input", maker, "a syntax error at the end", SYNTAX_ERROR - 26,
            x -> amend(x, 0, "repeal 1;add 2 7;move 1 2;"));
        changesNothing("a full scene without input", () -> fullScene(""), "full", FULL, x -> amend(x, 0, "repeal 1"));
    }

    // ---- promise 11: amendmentCount

    @Says("Returns 0 to 8.")
    private static void promise11ZeroToEight() {
        Statute x = new Statute();
        for (int count = 0; count < 8; count++) {
            due("count", x.amendmentCount(), count);
            amend(x, 0, "repeal 1;repeal 2");
        }
        due("count", x.amendmentCount(), 8);
        amend(x, 0, "repeal 1");
        due("count after a refused one", x.amendmentCount(), 8);
        for (int count = 7; count >= 0; count--) {
            x.removeLastAmendment();
            due("count", x.amendmentCount(), count);
        }
        x.removeLastAmendment();
        due("count after a refused removal", x.amendmentCount(), 0);
        amend(x, 0, "repeal 1;");
        due("count after a syntax error", x.amendmentCount(), 0);
    }

    @Says(ONLY_ANSWERS)
    private static void promise11OnlyAnswers() {
        onlyAnswers("amendmentCount", x -> x.amendmentCount());
    }

    // ---- promise 12: instructionCount

    @Says("Returns the number of instructions, at least 1; NO_SUCH_AMENDMENT.")
    private static void promise12AmendmentThatIsNone() {
        due("number 0 of none", new Statute().instructionCount(0), NO_SUCH_AMENDMENT);
        Statute x = new Statute();
        amend(x, 0, "repeal 1");
        amend(x, 0, "repeal 1;repeal 2");
        for (int amendment : new int[] {MIN, -3, -1, 2, 3, 8, MAX}) {
            due("number " + amendment, x.instructionCount(amendment), NO_SUCH_AMENDMENT);
        }
        due("the smallest number", x.instructionCount(0), 1);
        due("the greatest number", x.instructionCount(1), 2);
        x.removeLastAmendment();
        due("one that was removed", x.instructionCount(1), NO_SUCH_AMENDMENT);
        x.clear();
        due("one that was cleared", x.instructionCount(0), NO_SUCH_AMENDMENT);
    }

    @Says("Returns the number of instructions, at least 1")
    private static void promise12OneToFifteen() {
        for (int count = 1; count <= 15; count++) {
            Statute x = new Statute();
            amend(x, 0, repeated("add 9 9", count));
            due("the number", x.instructionCount(0), count);
        }
        Statute y = new Statute();
        for (int amendment = 0; amendment < 8; amendment++) {
            amend(y, 0, repeated("add 9 9", 1 + amendment % 3));
        }
        due("of the eighth", y.instructionCount(7), 2);
        due("of the seventh", y.instructionCount(6), 1);
    }

    @Says(ONLY_ANSWERS)
    private static void promise12OnlyAnswers() {
        onlyAnswers("instructionCount", x -> x.instructionCount(1), x -> x.instructionCount(2));
    }

    // ---- promise 13: setCommencement

    @Says("Returns the previous day; NO_SUCH_AMENDMENT (checked first)")
    private static void promise13AmendmentThatIsNone() {
        due("number 0 of none", new Statute().setCommencement(0, 1), NO_SUCH_AMENDMENT);
        Statute x = small();
        amend(x, 4, "repeal 1");
        amend(x, 5, "repeal 1");
        for (int amendment : new int[] {MIN, -3, -1, 2, 3, 8, MAX}) {
            due("number " + amendment, x.setCommencement(amendment, 1), NO_SUCH_AMENDMENT);
        }
        due("the smallest number", x.setCommencement(0, 7), 4);
        due("the greatest number", x.setCommencement(1, 8), 5);
    }

    @Says({"NO_SUCH_DAY if day is out of range", "`day`: the new commencement day, 0 to 9999"})
    private static void promise13DayOutOfRange() {
        Statute x = small();
        amend(x, 4, "replace 1 5");
        for (int day : NO_DAYS) {
            due("day " + day, x.setCommencement(0, day), NO_SUCH_DAY);
        }
        due("day -1", x.setCommencement(0, -1), NO_SUCH_DAY);
        due("day 0", x.setCommencement(0, 0), 4);
        due("the text of day 0", x.textAt(0, 0), 5);
        due("the text of day -1", x.textAt(-1, 0), 10);
        due("day 9999", x.setCommencement(0, 9999), 0);
        due("the text of day 9998", x.textAt(9998, 0), 10);
        due("the text of day 9999", x.textAt(9999, 0), 5);
        due("the same day", x.setCommencement(0, 9999), 9999);
    }

    @Says(FIRST_ERROR)
    private static void promise13FirstErrorCounts() {
        Statute x = small();
        due("amendment before day", x.setCommencement(0, -1), NO_SUCH_AMENDMENT);
        amend(x, 4, "repeal 1");
        due("amendment before day, above", x.setCommencement(1, 10000), NO_SUCH_AMENDMENT);
    }

    @Says("amendments with the same commencement day are applied in the order of their numbers")
    private static void promise13SameDayByNumber() {
        Statute x = small();
        amend(x, 5, "replace 1 100");
        amend(x, 3, "replace 1 101");
        amend(x, 5, "replace 1 102");
        due("two on day 5", x.textAt(5, 0), 102);
        x.setCommencement(1, 5);
        due("three on day 5", x.textAt(5, 0), 102);
        x.setCommencement(2, 4);
        due("numbers 0 and 1 on day 5", x.textAt(5, 0), 101);
        x.setCommencement(0, 6);
        due("number 0 on day 6", x.textAt(6, 0), 100);
    }

    @Says(STATE_STAYS)
    private static void promise13RefusedCallsChangeNothing() {
        refused("an amendment that is none", NO_SUCH_AMENDMENT, x -> x.setCommencement(2, 1));
        refused("a day too small", NO_SUCH_DAY, x -> x.setCommencement(0, -1));
        refused("a day too large", NO_SUCH_DAY, x -> x.setCommencement(1, 10000));
    }

    // ---- promise 14: removeLastAmendment

    @Says("Returns the number of amendments that remain; NONE if there is no amendment.")
    private static void promise14NoAmendment() {
        Statute x = small();
        due("of none", x.removeLastAmendment(), NONE);
        for (int number = 0; number < 8; number++) {
            amend(x, number, "repeal 1");
        }
        for (int remaining = 7; remaining >= 0; remaining--) {
            due("remaining", x.removeLastAmendment(), remaining);
        }
        due("of none again", x.removeLastAmendment(), NONE);
        due("the next number", amend(x, 0, "repeal 1"), 0);
    }

    @Says("Removes the amendment with the greatest number.")
    private static void promise14GreatestNumber() {
        Statute x = small();
        amend(x, 5, "replace 1 5");
        amend(x, 9, "replace 1 6");
        amend(x, 1, "replace 1 7;repeal 2");
        due("remaining", x.removeLastAmendment(), 2);
        due("day 1", x.textAt(1, 0), 10);
        due("2 on day 9", x.isRepealedAt(9, 4), 0);
        due("day 9", x.textAt(9, 0), 6);
        due("remaining", x.removeLastAmendment(), 1);
        due("day 9 then", x.textAt(9, 0), 5);
    }

    @Says(STATE_STAYS)
    private static void promise14RefusedCallsChangeNothing() {
        changesNothing("a small text", BoundaryTests::small, "of none", NONE, x -> x.removeLastAmendment());
    }

    // ---- days and positions, which many promises share

    private interface AtDay {
        long on(Statute x, int day);
    }

    private interface AtPosition {
        long on(Statute x, int day, int index);
    }

    private static void daysOutOfRange(AtDay call) {
        Statute x = small();
        for (int day : NO_DAYS) {
            due("day " + day, call.on(x, day), NO_SUCH_DAY);
            due("day " + day + " of an empty text", call.on(new Statute(), day), NO_SUCH_DAY);
        }
    }

    private static void daysOutOfRange(AtPosition call) {
        daysOutOfRange((x, day) -> call.on(x, day, 0));
        daysOutOfRange((x, day) -> call.on(x, day, -1));
        daysOutOfRange((x, day) -> call.on(x, day, 60));
    }

    /** The text of day 4 has five provisions, that of day 5 six, that of day 6 four. */
    private static void positionsOutOfRange(AtPosition call) {
        Statute x = small();
        amend(x, 5, "insert 2 1");
        amend(x, 6, "repeal 1(1);renumber 1");
        for (int index : new int[] {MIN, -9, -2, -1, 6, 7, 30, 59, 60, 61, MAX}) {
            due("position " + index + " of day 5", call.on(x, 5, index), NO_SUCH_POSITION);
            due("position " + index + " of day -1", call.on(x, -1, index), NO_SUCH_POSITION);
        }
        due("position 5 of day -1", call.on(x, -1, 5), NO_SUCH_POSITION);
        due("position 5 of day 4", call.on(x, 4, 5), NO_SUCH_POSITION);
        due("position 4 of day 6", call.on(x, 6, 4), NO_SUCH_POSITION);
        due("position 0 of an empty text", call.on(new Statute(), -1, 0), NO_SUCH_POSITION);
        due("position 0 of an empty text on day 9999", call.on(new Statute(), 9999, 0), NO_SUCH_POSITION);
    }

    /** What is due at the ends of the same text: its first and last position on day -1, 4, 5, 6 and 9999. */
    private static void endsAre(AtPosition call, long first, long last, long lastOfDay5) {
        Statute x = small();
        amend(x, 5, "insert 2 1");
        amend(x, 6, "repeal 1(1);renumber 1");
        for (int day : new int[] {-1, 0, 4}) {
            due("position 0 of day " + day, call.on(x, day, 0), first);
            due("position 4 of day " + day, call.on(x, day, 4), last);
        }
        due("position 0 of day 5", call.on(x, 5, 0), first);
        due("position 4 of day 5", call.on(x, 5, 4), last);
        due("position 5 of day 5", call.on(x, 5, 5), lastOfDay5);
        for (int day : new int[] {6, 9999}) {
            due("position 0 of day " + day, call.on(x, day, 0), first);
            due("position 2 of day " + day, call.on(x, day, 2), last);
            due("position 3 of day " + day, call.on(x, day, 3), lastOfDay5);
        }
    }

    // ---- promise 15: provisionCount

    @Says({"NO_SUCH_DAY if day is out of range.", "`day`: the day of the version, 0 to 9999, or -1 for the original text"})
    private static void promise15DayOutOfRange() {
        daysOutOfRange((x, day) -> x.provisionCount(day));
        Statute x = small();
        amend(x, 0, "add 1 1");
        amend(x, 9999, "add 1 1");
        due("day -1", x.provisionCount(-1), 5);
        due("day 0", x.provisionCount(0), 6);
        due("day 9998", x.provisionCount(9998), 6);
        due("day 9999", x.provisionCount(9999), 7);
    }

    @Says("Returns 0 to 60")
    private static void promise15ZeroToSixty() {
        due("an empty text", new Statute().provisionCount(9999), 0);
        Statute x = thirtyAnd(30);
        amend(x, 2, "add 2 1;insert 2 1");
        due("the original text", x.provisionCount(-1), 30);
        due("day 0", x.provisionCount(0), 45);
        due("day 1", x.provisionCount(1), 60);
        due("day 2", x.provisionCount(2), 60);
    }

    @Says({"Returns the number of provisions of a version, repealed ones included.",
        "The provisions of a version, repealed ones included, have positions from 0 on, in document order."})
    private static void promise15RepealedOnesIncluded() {
        Statute x = small();
        amend(x, 1, "repeal 1");
        amend(x, 2, "repeal 2");
        due("some repealed", x.provisionCount(1), 5);
        due("all repealed", x.provisionCount(2), 5);
    }

    private static void after(String text, String want) {
        Statute x = small();
        due("addAmendment of " + text, amend(x, 3, text), 0);
        due("after " + text, whole(x, 3), want);
        due("the day before " + text, whole(x, 2), SMALL);
    }

    private static void afterIn(Statute x, String text, String want) {
        due("addAmendment of " + text, amend(x, 3, text), x.amendmentCount() - 1);
        due("after " + text, paths(x, 3), want);
    }

    @Says("insert P N: a new provision with text N is placed directly after the provision P, as its sibling.")
    private static void promise15Insert() {
        after("insert 1 5", "1:10 1(1):12 1(1)(1):14 1(2):13 1A:5 2:11");
        after("insert 2 5", "1:10 1(1):12 1(1)(1):14 1(2):13 2:11 2A:5");
        after("insert 1(1) 5", "1:10 1(1):12 1(1)(1):14 1(1A):5 1(2):13 2:11");
        after("insert 1(1)(1) 5", "1:10 1(1):12 1(1)(1):14 1(1)(1A):5 1(2):13 2:11");
        after("insert 1 5;insert 1 6", "1:10 1(1):12 1(1)(1):14 1(2):13 1A:5 2:11");
    }

    @Says("If no such suffix with at most 3 letters exists, there is no label.")
    private static void promise15BehindTheLastLetters() {
        Statute x = sections(1);
        int a = x.insertProvision(0, 0);
        x.insertProvision(a, 0);
        int last = x.insertProvision(a, 0);
        for (int letter = 1; letter < 26; letter++) {
            last = x.insertProvision(last, 0);
        }
        due("the last one", path(x, -1, 27), "1AZ");
        due("behind 1AZ and before 1B", x.insertProvision(last, 0), 29);
        due("its path", path(x, -1, 28), "1AZA");
        for (int at = 0; at < 25; at += 5) {
            StringBuilder text = new StringBuilder();
            for (int letter = at; letter < at + 5; letter++) {
                text.append(letter == at ? "" : ";").append("insert 1AZ").append((char) ('A' + letter)).append(" 1");
            }
            due("five more", amend(x, at, text.toString()), at / 5);
        }
        due("no conflict yet", x.conflictCount(20), 0);
        due("the last one then", path(x, 20, 53), "1AZZ");
        amend(x, 21, "insert 1AZZ 1");
        due("behind 1AZZ and before 1B", x.conflictReason(21, 0), 5);
    }

    @Says("among the shortest ones it is the first in dictionary order")
    private static void promise15ShorterSuffixWhereThereIsRoom() {
        Statute x = sections(2);
        int a = x.insertProvision(0, 0);
        int b = x.insertProvision(a, 0);
        x.insertProvision(b, 0);
        int aa = x.insertProvision(a, 0);
        x.insertProvision(aa, 0);
        x.insertProvision(aa, 0);
        due("paths", paths(x, -1), "1 1A 1AA 1AAA 1AB 1B 1C 2");
        amend(x, 1, "move 1B 2;insert 1AB 1");
        due("after 1AB and before 1C", path(x, 1, 5), "1B");
        amend(x, 2, "move 1A 2A;insert 1 1");
        due("after 1 and before 1AA", path(x, 2, 1), "1A");
        due("its text", x.textAt(2, 1), 1);
        amend(x, 3, "move 1AA 2B;insert 1A 1");
        due("after 1A and before 1AAA", path(x, 3, 2), "1AA");
        due("its text", x.textAt(3, 2), 1);
        due("no conflict", x.conflictCount(3), 0);
    }

    @Says("Repealed provisions keep their labels and count as siblings.")
    private static void promise15RepealedOnesCountAsSiblings() {
        after("repeal 1(2);add 1 6", "1:10 1(1):12 1(1)(1):14 1(2):13- 1(3):6 2:11");
        after("insert 1 5;repeal 1A;insert 1 6", "1:10 1(1):12 1(1)(1):14 1(2):13 1A:5- 2:11");
        after("insert 1 5;insert 1A 6;repeal 1B;insert 1A 7",
            "1:10 1(1):12 1(1)(1):14 1(2):13 1A:5 1AA:7 1B:6- 2:11");
        after("insert 1 5;repeal 1A;move 2 1", "1:10 1(1):12 1(1)(1):14 1(2):13 1A:5- 2:11");
    }

    @Says("add P N: a new provision with text N is added as the last child of P.")
    private static void promise15Add() {
        after("add 1 5", "1:10 1(1):12 1(1)(1):14 1(2):13 1(3):5 2:11");
        after("add 2 5", "1:10 1(1):12 1(1)(1):14 1(2):13 2:11 2(1):5");
        after("add 1(2) 5", "1:10 1(1):12 1(1)(1):14 1(2):13 1(2)(1):5 2:11");
        after("add 1(1) 5", "1:10 1(1):12 1(1)(1):14 1(1)(2):5 1(2):13 2:11");
        after("add 1(1)(1) 5", SMALL);
    }

    @Says("gets as number 1 plus the greatest number of its siblings, or 1 if it has none, and no suffix")
    private static void promise15NumberOfTheLast() {
        after("insert 1(2) 5;add 1 6", "1:10 1(1):12 1(1)(1):14 1(2):13 1(2A):5 1(3):6 2:11");
        after("add 2 5;move 1(1) 2(1);add 1 6", "1:10 1(2):13 1(3):6 2:11 2(1):5 2(1A):12 2(1A)(1):14");
        after("add 2 5;move 1(2) 2(1);add 1 6", "1:10 1(1):12 1(1)(1):14 1(2):6 2:11 2(1):5 2(1A):13");
        Statute x = sections(1);
        afterIn(x, repeated("add 1 1", 11), "1 1(1) 1(2) 1(3) 1(4) 1(5) 1(6) 1(7) 1(8) 1(9) 1(10) 1(11)");
    }

    /**
     * A number above 99 is beyond every run: 29 of the numbers can come from the original text, each other one
     * takes an add of 8 characters, and as a version has at most 60 provisions, 41 siblings would have to leave
     * by a move of 15 characters each. That is more than the 8 times 120 characters that amendments have. What
     * can be shown is that numbers go on beyond the 60 provisions that a version has.
     */
    @Says("If that number would be greater than 99, there is no label.")
    private static void promise15NumbersBelowTheLimit() {
        Statute x = sections(2);
        x.addProvision(1, 0);
        for (int child = 1; child <= 27; child++) {
            x.addProvision(0, 0);
        }
        amend(x, 0, repeated("add 1 1", 15));
        amend(x, 0, repeated("add 1 1", 15));
        due("a full version", x.provisionCount(0), 60);
        amend(x, 1, "move 1(1) 2(1);move 1(2) 2(1A);move 1(3) 2(1B);"
            + "repeal 2(1);repeal 2(1A);repeal 2(1B);repeal 2(1C);renumber 2");
        due("room for four", x.provisionCount(1), 56);
        amend(x, 2, repeated("add 1 1", 4));
        due("full again", x.provisionCount(2), 60);
        due("no conflict", x.conflictCount(2), 0);
        due("the first child", path(x, 2, 1), "1(4)");
        due("the last child", path(x, 2, 58), "1(61)");
        due("found", look(x, 2, "1(61)"), 58);
    }

    @Says("repeal P: P and all its descendants become repealed.")
    private static void promise15Repeal() {
        after("repeal 1", "1:10- 1(1):12- 1(1)(1):14- 1(2):13- 2:11");
        after("repeal 1(1)", "1:10 1(1):12- 1(1)(1):14- 1(2):13 2:11");
        after("repeal 1(1)(1)", "1:10 1(1):12 1(1)(1):14- 1(2):13 2:11");
        after("repeal 2", "1:10 1(1):12 1(1)(1):14 1(2):13 2:11-");
        after("repeal 1(1)(1);repeal 1(1)", "1:10 1(1):12- 1(1)(1):14- 1(2):13 2:11");
        Statute x = sections(11);
        x.insertProvision(0, 5);
        amend(x, 0, "repeal 1");
        due("paths that begin alike", whole(x, 0), "1:0- 1A:5 2:1 3:2 4:3 5:4 6:5 7:6 8:7 9:8 10:9 11:10");
    }

    @Says("move P Q: P, with its descendants, is removed from its place and placed directly after Q, as a sibling of Q.")
    private static void promise15Move() {
        after("move 1 2", "2:11 2A:10 2A(1):12 2A(1)(1):14 2A(2):13");
        after("move 2 1", "1:10 1(1):12 1(1)(1):14 1(2):13 1A:11");
        after("move 1(1) 1(2)", "1:10 1(2):13 1(2A):12 1(2A)(1):14 2:11");
        after("move 1(2) 1(1)", "1:10 1(1):12 1(1)(1):14 1(1A):13 2:11");
        after("add 2 5;move 1(1) 2(1)", "1:10 1(2):13 2:11 2(1):5 2(1A):12 2(1A)(1):14");
        after("add 1(2) 5;move 1(1)(1) 1(2)(1)", "1:10 1(1):12 1(2):13 1(2)(1):5 1(2)(1A):14 2:11");
        after("add 2 5;add 2(1) 6;move 2(1)(1) 1(1)(1)", "1:10 1(1):12 1(1)(1):14 1(1)(1A):6 1(2):13 2:11 2(1):5");
        afterIn(sections(2), "move 1 2", "2 2A");
        afterIn(sections(3), "move 1 2", "2 2A 3");
        afterIn(sections(3), "move 3 1", "1 1A 2");
        afterIn(sections(3), "move 2 3;move 1 3", "1 3 3A");
    }

    @Says("P gets a new label, and the descendants of P keep theirs.")
    private static void promise15MoveKeepsTheDescendants() {
        after("insert 1(1)(1) 5;repeal 1(1)(1);move 1 2", "2:11 2A:10 2A(1):12 2A(1)(1):14- 2A(1)(1A):5 2A(2):13");
        after("insert 1(1) 5;move 1(1) 1(1A)", "1:10 1(1A):5 1(1B):12 1(1B)(1):14 1(2):13 2:11");
    }

    @Says({"renumber P: the repealed children of P are removed with all their descendants",
        "the other children of P get the numbers 1, 2, 3 and so on, in their order, without suffixes"})
    private static void promise15Renumber() {
        after("repeal 1(1);renumber 1", "1:10 1(1):13 2:11");
        after("repeal 1(2);renumber 1", "1:10 1(1):12 1(1)(1):14 2:11");
        after("repeal 1(1);repeal 1(2);renumber 1", "1:10 2:11");
        after("insert 1(1) 5;add 1(1A) 6;renumber 1", "1:10 1(1):12 1(1)(1):14 1(2):5 1(2)(1):6 1(3):13 2:11");
        after("repeal 1(1)(1);renumber 1", "1:10 1(1):12 1(1)(1):14- 1(2):13 2:11");
        after("repeal 1(1)(1);renumber 1(1)", "1:10 1(1):12 1(2):13 2:11");
        after("insert 1(1)(1) 5;repeal 1(1)(1);renumber 1(1)", "1:10 1(1):12 1(1)(1):5 1(2):13 2:11");
        after("insert 1(1)(1) 5;repeal 1(1)(1);renumber 1", "1:10 1(1):12 1(1)(1):14- 1(1)(1A):5 1(2):13 2:11");
        after("repeal 2;renumber 1", "1:10 1(1):12 1(1)(1):14 1(2):13 2:11-");
        after("renumber 1", SMALL);
    }

    @Says("get the numbers 1, 2, 3 and so on, in their order, without suffixes")
    private static void promise15RenumberBeyondNine() {
        Statute x = sections(1);
        x.addProvision(0, 0);
        for (int child = 1; child < 12; child++) {
            x.insertProvision(child, 0);
        }
        afterIn(x, "renumber 1", "1 1(1) 1(2) 1(3) 1(4) 1(5) 1(6) 1(7) 1(8) 1(9) 1(10) 1(11) 1(12)");
        due("the order", x.originAt(3, 12), 12);
    }

    @Says("Renumbering a provision without children is not a conflict.")
    private static void promise15RenumberWithoutChildren() {
        after("renumber 2", SMALL);
        after("renumber 1(2)", SMALL);
        after("renumber 1(1)(1)", SMALL);
        Statute x = small();
        amend(x, 0, "renumber 2;renumber 1(2);renumber 1(1)(1)");
        due("conflicts", x.conflictCount(0), 0);
    }

    @Says("Each instruction is applied to the text as all earlier instructions left it.")
    private static void promise15OneAfterTheOther() {
        after("insert 1 5;replace 1A 6;add 1A 7;repeal 1A(1)",
            "1:10 1(1):12 1(1)(1):14 1(2):13 1A:6 1A(1):7- 2:11");
        after("move 1 2;replace 1 5;replace 2A 6", "2:11 2A:6 2A(1):12 2A(1)(1):14 2A(2):13");
        after("repeal 1(1);renumber 1;replace 1(1) 5;replace 1(2) 6", "1:10 1(1):5 2:11");
        Statute x = small();
        amend(x, 2, "replace 1A 9");
        amend(x, 1, "insert 1 5");
        due("of an earlier amendment", whole(x, 2), "1:10 1(1):12 1(1)(1):14 1(2):13 1A:9 2:11");
    }

    @Says("it changes nothing, and the following instructions are applied all the same")
    private static void promise15ConflictsChangeNothing() {
        for (String conflict : new String[] {"insert 3 1", "add 3 1", "replace 3 1", "repeal 3", "renumber 3", "move 3 1",
            "move 1 3", "add 1(1)(1) 1", "move 1 1", "move 1 1(1)", "move 1(1) 2", "move 1(1)(1) 1(1)"}) {
            after(conflict + ";replace 2 99", "1:10 1(1):12 1(1)(1):14 1(2):13 2:99");
        }
        String repealed = "1:10 1(1):12- 1(1)(1):14- 1(2):13 2:99";
        for (String conflict : new String[] {"insert 1(1) 1", "add 1(1) 1", "replace 1(1) 1", "repeal 1(1)(1)",
            "renumber 1(1)", "move 1(1) 1(2)", "move 1(2) 1(1)"}) {
            after("repeal 1(1);" + conflict + ";replace 2 99", repealed);
        }
        after("insert 1 5;insert 1 6;move 2 1;replace 2 99", "1:10 1(1):12 1(1)(1):14 1(2):13 1A:5 2:99");
        after("insert 2 5;move 1 2;replace 2 99", "1:10 1(1):12 1(1)(1):14 1(2):13 2:99 2A:5");
    }

    @Says(ONLY_ANSWERS)
    private static void promise15OnlyAnswers() {
        onlyAnswers("provisionCount", x -> x.provisionCount(5), x -> x.provisionCount(-1), x -> x.provisionCount(-2));
    }

    // ---- promise 16: levelAt

    @Says({"NO_SUCH_DAY if day is out of range (checked first)",
        "`day`: the day of the version, 0 to 9999, or -1 for the original text"})
    private static void promise16DayOutOfRange() {
        daysOutOfRange((x, day, index) -> x.levelAt(day, index));
    }

    @Says({"NO_SUCH_POSITION if there is no such position.", "`index`: the position in the version, from 0"})
    private static void promise16PositionOutOfRange() {
        positionsOutOfRange((x, day, index) -> x.levelAt(day, index));
        endsAre((x, day, index) -> x.levelAt(day, index), 1, 1, 1);
    }

    @Says({"Returns 1, 2 or 3", "A statute is an ordered tree of provisions with three levels"})
    private static void promise16OneToThree() {
        Statute x = small();
        amend(x, 1, "add 1(2) 5;add 2 6;insert 2 7;repeal 1");
        int[] levels = {1, 2, 3, 2, 3, 1, 2, 1};
        for (int index = 0; index < 8; index++) {
            due("levelAt(1, " + index + ")", x.levelAt(1, index), levels[index]);
        }
        Statute y = thirtyAnd(30);
        due("position 59", y.levelAt(1, 59), 1);
        due("position 33", y.levelAt(1, 33), 2);
        due("position 60", y.levelAt(1, 60), NO_SUCH_POSITION);
    }

    @Says(ONLY_ANSWERS)
    private static void promise16OnlyAnswers() {
        onlyAnswers("levelAt", x -> x.levelAt(5, 1), x -> x.levelAt(-2, 0), x -> x.levelAt(-1, 5));
    }

    // ---- promise 17: textAt

    @Says({"NO_SUCH_DAY if day is out of range (checked first)",
        "`day`: the day of the version, 0 to 9999, or -1 for the original text"})
    private static void promise17DayOutOfRange() {
        daysOutOfRange((x, day, index) -> x.textAt(day, index));
    }

    @Says({"NO_SUCH_POSITION if there is no such position.", "`index`: the position in the version, from 0"})
    private static void promise17PositionOutOfRange() {
        positionsOutOfRange((x, day, index) -> x.textAt(day, index));
        endsAre((x, day, index) -> x.textAt(day, index), 10, 11, 1);
    }

    @Says({"Returns 0 to 9999", "A text is represented by a number from 0 to 9999."})
    private static void promise17ZeroTo9999() {
        Statute x = sections(1);
        x.setText(0, 9999);
        amend(x, 1, "replace 1 0");
        amend(x, 2, "insert 1 9999;add 1 0");
        due("the original", x.textAt(-1, 0), 9999);
        due("replaced", x.textAt(1, 0), 0);
        due("inserted", x.textAt(2, 2), 9999);
        due("added", x.textAt(2, 1), 0);
    }

    @Says("replace P N: the text of P becomes N.")
    private static void promise17Replace() {
        after("replace 1 5", "1:5 1(1):12 1(1)(1):14 1(2):13 2:11");
        after("replace 1(1) 5", "1:10 1(1):5 1(1)(1):14 1(2):13 2:11");
        after("replace 1(1)(1) 5", "1:10 1(1):12 1(1)(1):5 1(2):13 2:11");
        after("replace 2 11", SMALL);
        after("replace 2 5;replace 2 6", "1:10 1(1):12 1(1)(1):14 1(2):13 2:6");
    }

    @Says("All amendments with a commencement day that is not later than the day are applied")
    private static void promise17FromTheCommencementDayOn() {
        Statute x = small();
        amend(x, 0, "replace 1 100");
        amend(x, 7, "replace 1 107");
        amend(x, 9999, "replace 1 109");
        due("day -1", x.textAt(-1, 0), 10);
        due("day 0", x.textAt(0, 0), 100);
        due("day 6", x.textAt(6, 0), 100);
        due("day 7", x.textAt(7, 0), 107);
        due("day 8", x.textAt(8, 0), 107);
        due("day 9998", x.textAt(9998, 0), 107);
        due("day 9999", x.textAt(9999, 0), 109);
    }

    @Says("in the order of their commencement days")
    private static void promise17OrderOfDays() {
        Statute x = small();
        for (int number = 0; number < 8; number++) {
            amend(x, 8 - number, "replace 1 " + number);
        }
        for (int day = 1; day <= 8; day++) {
            due("day " + day, x.textAt(day, 0), 8 - day);
        }
        for (int number = 0; number < 8; number++) {
            x.setCommencement(number, 5);
        }
        due("all on day 5", x.textAt(5, 0), 7);
        due("the day before", x.textAt(4, 0), 10);
    }

    @Says("The version of day -1 is the original text, to which no amendment is applied.")
    private static void promise17OriginalText() {
        Statute x = small();
        amend(x, 0, "replace 1 5;insert 1 6;move 1(1) 1(2);repeal 2");
        due("day -1", whole(x, -1), SMALL);
        due("day 0", whole(x, 0), "1:5 1(2):13 1(2A):12 1(2A)(1):14 1A:6 2:11-");
        due("day -1 again", whole(x, -1), SMALL);
    }

    @Says(ONLY_ANSWERS)
    private static void promise17OnlyAnswers() {
        onlyAnswers("textAt", x -> x.textAt(5, 1), x -> x.textAt(-2, 0), x -> x.textAt(-1, 5));
    }

    // ---- promise 18: isRepealedAt

    @Says({"NO_SUCH_DAY if day is out of range (checked first)",
        "`day`: the day of the version, 0 to 9999, or -1 for the original text"})
    private static void promise18DayOutOfRange() {
        daysOutOfRange((x, day, index) -> x.isRepealedAt(day, index));
    }

    @Says({"NO_SUCH_POSITION if there is no such position.", "`index`: the position in the version, from 0"})
    private static void promise18PositionOutOfRange() {
        positionsOutOfRange((x, day, index) -> x.isRepealedAt(day, index));
        endsAre((x, day, index) -> x.isRepealedAt(day, index), 0, 0, 0);
    }

    @Says("Returns 1 if it is, otherwise 0")
    private static void promise18OneOrZero() {
        Statute x = small();
        amend(x, 3, "repeal 1(1);repeal 2");
        int[] repealed = {0, 1, 1, 0, 1};
        for (int index = 0; index < 5; index++) {
            due("isRepealedAt(2, " + index + ")", x.isRepealedAt(2, index), 0);
            due("isRepealedAt(3, " + index + ")", x.isRepealedAt(3, index), repealed[index]);
        }
    }

    @Says("No provision of the original text is repealed.")
    private static void promise18NeverInTheOriginalText() {
        Statute x = small();
        amend(x, 0, "repeal 1;repeal 2");
        for (int index = 0; index < 5; index++) {
            due("isRepealedAt(0, " + index + ")", x.isRepealedAt(0, index), 1);
            due("isRepealedAt(-1, " + index + ")", x.isRepealedAt(-1, index), 0);
        }
        x.insertProvision(0, 1);
        due("a new one of the original text", x.isRepealedAt(-1, 4), 0);
        due("it is not yet repealed on day 0", x.isRepealedAt(0, 4), 0);
    }

    @Says("insert P N: a new provision")
    private static void promise18NewOnesAreNotRepealed() {
        Statute x = small();
        amend(x, 1, "insert 1(1) 5;repeal 1(1);renumber 1;add 1 6;insert 1(3) 7");
        due("day 1", whole(x, 1), "1:10 1(1):5 1(2):13 1(3):6 1(3A):7 2:11");
    }

    @Says(ONLY_ANSWERS)
    private static void promise18OnlyAnswers() {
        onlyAnswers("isRepealedAt", x -> x.isRepealedAt(5, 3), x -> x.isRepealedAt(-2, 0), x -> x.isRepealedAt(-1, 5));
    }

    // ---- promise 19: pathLengthAt

    /** The sections 1 to 12 and 12A, with 12A(1), 12A(1A) and 12A(1A)(1) at the positions 13 to 15. */
    private static Statute twelve() {
        Statute x = sections(12);
        int child = x.addProvision(x.insertProvision(11, 1), 2);
        x.addProvision(x.insertProvision(child, 3), 4);
        return x;
    }

    @Says({"NO_SUCH_DAY if day is out of range (checked first)",
        "`day`: the day of the version, 0 to 9999, or -1 for the original text"})
    private static void promise19DayOutOfRange() {
        daysOutOfRange((x, day, index) -> x.pathLengthAt(day, index));
    }

    @Says({"NO_SUCH_POSITION if there is no such position.", "`index`: the position in the version, from 0"})
    private static void promise19PositionOutOfRange() {
        positionsOutOfRange((x, day, index) -> x.pathLengthAt(day, index));
        endsAre((x, day, index) -> x.pathLengthAt(day, index), 1, 1, 2);
    }

    @Says("Returns the number of characters")
    private static void promise19ShortestAndLongest() {
        Statute x = twelve();
        due("9", x.pathLengthAt(-1, 8), 1);
        due("10", x.pathLengthAt(-1, 9), 2);
        due("12A", x.pathLengthAt(-1, 12), 3);
        due("12A(1)", x.pathLengthAt(-1, 13), 6);
        due("12A(1A)", x.pathLengthAt(-1, 14), 7);
        due("12A(1A)(1)", x.pathLengthAt(-1, 15), 10);
        due("10AAA(1AAA)(1AAA)", threeLetters().pathLengthAt(-1, 20), 17);
    }

    /** Places siblings after one without a suffix; returns the one with the suffix AAA. */
    private static int withThreeLetters(Statute x, int first) {
        int a = x.insertProvision(first, 0);
        x.insertProvision(a, 0);
        int aa = x.insertProvision(a, 0);
        x.insertProvision(aa, 0);
        return x.insertProvision(aa, 0);
    }

    /** The longest labels that a text can hold: 10AAA(1AAA)(1AAA) is at position 20. */
    private static Statute threeLetters() {
        Statute x = sections(10);
        int section = withThreeLetters(x, 9);
        int subsection = withThreeLetters(x, x.addProvision(section, 0));
        withThreeLetters(x, x.addProvision(subsection, 0));
        return x;
    }

    @Says(ONLY_ANSWERS)
    private static void promise19OnlyAnswers() {
        onlyAnswers("pathLengthAt", x -> x.pathLengthAt(5, 1), x -> x.pathLengthAt(-2, 0), x -> x.pathLengthAt(-1, 5));
    }

    // ---- promise 20: pathCharacterAt

    @Says({"NO_SUCH_DAY if day is out of range (checked first)",
        "`day`: the day of the version, 0 to 9999, or -1 for the original text"})
    private static void promise20DayOutOfRange() {
        daysOutOfRange((x, day, index) -> x.pathCharacterAt(day, index, 0));
        daysOutOfRange((x, day, index) -> x.pathCharacterAt(day, index, -1));
    }

    @Says({"NO_SUCH_POSITION if there is no such position in the version (checked second)",
        "`index`: the position in the version, from 0"})
    private static void promise20PositionOutOfRange() {
        positionsOutOfRange((x, day, index) -> x.pathCharacterAt(day, index, 0));
        positionsOutOfRange((x, day, index) -> x.pathCharacterAt(day, index, -1));
        positionsOutOfRange((x, day, index) -> x.pathCharacterAt(day, index, 99));
        endsAre((x, day, index) -> x.pathCharacterAt(day, index, 0), '1', '2', '2');
    }

    @Says("The path of a provision is the label of its section, followed for a subsection by the label of the subsection")
    private static void promise20FiftyNineChildren() {
        Statute x = sections(1);
        for (int child = 1; child < 30; child++) {
            x.addProvision(0, 0);
        }
        amend(x, 0, repeated("add 1 1", 15));
        amend(x, 0, repeated("add 1 1", 15));
        for (int index = 1; index < 60; index++) {
            int number = index;
            boolean two = number >= 10;
            due("position 2 of 1(" + number + ")", x.pathCharacterAt(0, index, 2), '0' + (two ? number / 10 : number));
            due("position 3 of 1(" + number + ")", x.pathCharacterAt(0, index, 3), two ? '0' + number % 10 : ')');
        }
        due("the last path", path(x, 0, 59), "1(59)");
        due("find of 1(59)", look(x, 0, "1(59)"), 59);
        due("find of 1(54)", look(x, 0, "1(54)"), 54);
        due("the level of 1(59)", x.levelAt(0, 59), 2);
    }

    @Says({"NONE if position is not a position in the path", "`position`: the position in the path, from 0"})
    private static void promise20PositionInThePath() {
        Statute x = twelve();
        for (int position : new int[] {MIN, -9, -2, -1, 10, 11, 99, MAX}) {
            due("position " + position + " of 12A(1A)(1)", x.pathCharacterAt(-1, 15, position), NONE);
        }
        due("position 0 of 12A(1A)(1)", x.pathCharacterAt(-1, 15, 0), '1');
        due("position 9 of 12A(1A)(1)", x.pathCharacterAt(-1, 15, 9), ')');
        due("position 0 of 9", x.pathCharacterAt(-1, 8, 0), '9');
        due("position 1 of 9", x.pathCharacterAt(-1, 8, 1), NONE);
        due("position 1 of 10", x.pathCharacterAt(-1, 9, 1), '0');
        due("position 2 of 10", x.pathCharacterAt(-1, 9, 2), NONE);
        due("position 2 of 12A", x.pathCharacterAt(-1, 12, 2), 'A');
        due("position 3 of 12A", x.pathCharacterAt(-1, 12, 3), NONE);
        due("position 5 of 12A(1)", x.pathCharacterAt(-1, 13, 5), ')');
        due("position 6 of 12A(1)", x.pathCharacterAt(-1, 13, 6), NONE);
    }

    @Says("12A(3)(1B) is the paragraph 1B of subsection 3 of section 12A")
    private static void promise20TheExampleOfAPath() {
        Statute x = sections(12);
        int section = x.insertProvision(11, 0);
        x.addProvision(section, 0);
        x.addProvision(section, 0);
        int paragraph = x.addProvision(x.addProvision(section, 0), 0);
        x.insertProvision(x.insertProvision(paragraph, 0), 0);
        due("the last path", path(x, -1, 18), "12A(3)(1B)");
        due("its level", x.levelAt(-1, 18), 3);
        due("three letters", path(threeLetters(), -1, 20), "10AAA(1AAA)(1AAA)");
    }

    @Says(ONLY_ANSWERS)
    private static void promise20OnlyAnswers() {
        onlyAnswers("pathCharacterAt", x -> x.pathCharacterAt(5, 1, 2), x -> x.pathCharacterAt(-2, 0, 0),
            x -> x.pathCharacterAt(-1, 5, 0), x -> x.pathCharacterAt(-1, 0, 1));
    }

    // ---- promise 21: originAt

    @Says({"NO_SUCH_DAY if day is out of range (checked first)",
        "`day`: the day of the version, 0 to 9999, or -1 for the original text"})
    private static void promise21DayOutOfRange() {
        daysOutOfRange((x, day, index) -> x.originAt(day, index));
    }

    @Says({"NO_SUCH_POSITION if there is no such position.", "`index`: the position in the version, from 0"})
    private static void promise21PositionOutOfRange() {
        positionsOutOfRange((x, day, index) -> x.originAt(day, index));
        endsAre((x, day, index) -> x.originAt(day, index), 0, 1, NONE);
    }

    @Says("NONE if an amendment created the provision")
    private static void promise21CreatedByAnAmendment() {
        Statute x = small();
        amend(x, 1, "insert 1 1;add 1(2) 1");
        amend(x, 2, "move 1A 2;move 1(1) 1(2)");
        int[] first = {0, 2, 4, 3, NONE, NONE, 1};
        int[] second = {0, 3, NONE, 2, 4, 1, NONE};
        for (int index = 0; index < 7; index++) {
            due("originAt(1, " + index + ")", x.originAt(1, index), first[index]);
            due("originAt(2, " + index + ")", x.originAt(2, index), second[index]);
        }
    }

    @Says("Returns the identifier of a provision in the original text.")
    private static void promise21ThirtyIdentifiers() {
        Statute x = sections(30);
        for (int index = 0; index < 30; index++) {
            due("originAt(-1, " + index + ")", x.originAt(-1, index), index);
        }
    }

    @Says(ONLY_ANSWERS)
    private static void promise21OnlyAnswers() {
        onlyAnswers("originAt", x -> x.originAt(5, 4), x -> x.originAt(-2, 0), x -> x.originAt(-1, 5));
    }

    // ---- promise 22: creatorAt

    @Says({"NO_SUCH_DAY if day is out of range (checked first)",
        "`day`: the day of the version, 0 to 9999, or -1 for the original text"})
    private static void promise22DayOutOfRange() {
        daysOutOfRange((x, day, index) -> x.creatorAt(day, index));
    }

    @Says({"NO_SUCH_POSITION if there is no such position.", "`index`: the position in the version, from 0"})
    private static void promise22PositionOutOfRange() {
        positionsOutOfRange((x, day, index) -> x.creatorAt(day, index));
        endsAre((x, day, index) -> x.creatorAt(day, index), NONE, NONE, 0);
    }

    @Says("NONE if the provision is part of the original text")
    private static void promise22PartOfTheOriginalText() {
        Statute x = small();
        amend(x, 1, "replace 1 5;move 1(1) 1(2);repeal 2;insert 1 9");
        int[] creators = {NONE, NONE, NONE, NONE, 0, NONE};
        for (int index = 0; index < 6; index++) {
            due("creatorAt(1, " + index + ")", x.creatorAt(1, index), creators[index]);
        }
    }

    @Says("Returns the number of the amendment, or NONE")
    private static void promise22NumbersZeroToSeven() {
        Statute x = sections(1);
        for (int number = 0; number < 8; number++) {
            amend(x, 8 - number, "add 1 " + number);
        }
        for (int index = 1; index <= 8; index++) {
            due("creatorAt(8, " + index + ")", x.creatorAt(8, index), 8 - index);
            due("textAt(8, " + index + ")", x.textAt(8, index), 8 - index);
        }
        due("creatorAt(1, 1)", x.creatorAt(1, 1), 7);
    }

    @Says(ONLY_ANSWERS)
    private static void promise22OnlyAnswers() {
        onlyAnswers("creatorAt", x -> x.creatorAt(5, 4), x -> x.creatorAt(-2, 0), x -> x.creatorAt(-1, 5));
    }

    // ---- promise 23: find

    @Says({"NO_SUCH_DAY if day is out of range (checked first)",
        "`day`: the day of the version, 0 to 9999, or -1 for the original text"})
    private static void promise23DayOutOfRange() {
        daysOutOfRange((x, day) -> look(x, day, "1"));
        Statute x = small();
        due("day -1", look(x, -1, "2"), 4);
        due("day 0", look(x, 0, "2"), 4);
        due("day 9999", look(x, 9999, "2"), 4);
    }

    private static void pathSyntax(String path, int position) {
        due("find of '" + path + "'", look(small(), -1, path), SYNTAX_ERROR - position);
    }

    @Says("SYNTAX_ERROR - k if the input is not exactly one path and k is its error position, as defined for amendments")
    private static void promise23NotExactlyOnePath() {
        pathSyntax("", 0);
        pathSyntax(" ", 0);
        pathSyntax(" 1", 0);
        pathSyntax("0", 0);
        pathSyntax("01", 0);
        pathSyntax("A", 0);
        pathSyntax("(1)", 0);
        pathSyntax(";", 0);
        pathSyntax("repeal 1", 0);
        pathSyntax("1 ", 1);
        pathSyntax("1;", 1);
        pathSyntax("1;2", 1);
        pathSyntax("1 2", 1);
        pathSyntax("1)", 1);
        pathSyntax("1a", 1);
        pathSyntax("100", 2);
        pathSyntax("1A1", 2);
        pathSyntax("1ABCD", 4);
        pathSyntax("99ZZZZ", 5);
        pathSyntax("1(", 2);
        pathSyntax("1()", 2);
        pathSyntax("1(0)", 2);
        pathSyntax("1(1", 3);
        pathSyntax("1(1(", 3);
        pathSyntax("1(100", 4);
        pathSyntax("1(1)1", 4);
        pathSyntax("1(1)(", 5);
        pathSyntax("1(1)(1", 6);
        pathSyntax("1(1)(1)(", 7);
        pathSyntax("1(1)(1)1", 7);
        pathSyntax("1(1)(1)(1)", 7);
        pathSyntax("1".repeat(120), 2);
        pathSyntax("99ZZZ(99ZZZ)(99ZZZ", 18);
    }

    @Says("NONE if the version has no such provision")
    private static void promise23NoSuchProvision() {
        due("in an empty text", look(new Statute(), -1, "1"), NONE);
        Statute x = small();
        amend(x, 3, "insert 1 1;repeal 1(1);renumber 1");
        for (String path : new String[] {"3", "99", "1A", "10", "2(1)", "1(3)", "1(1)(2)", "1(2)(1)", "2(1)(1)", "1(1A)",
            "99ZZZ(99ZZZ)(99ZZZ)"}) {
            due("find(-1) of " + path, look(x, -1, path), NONE);
        }
        due("1A on day 2", look(x, 2, "1A"), NONE);
        due("1A on day 3", look(x, 3, "1A"), 2);
        due("1(2) on day 3", look(x, 3, "1(2)"), NONE);
        due("1(1)(1) on day 3", look(x, 3, "1(1)(1)"), NONE);
    }

    @Says("Returns the position of the provision with this path, which may be repealed")
    private static void promise23EveryPosition() {
        Statute x = small();
        amend(x, 3, "repeal 1(1);repeal 2");
        String[] paths = {"1", "1(1)", "1(1)(1)", "1(2)", "2"};
        for (int index = 0; index < 5; index++) {
            due("find(-1) of " + paths[index], look(x, -1, paths[index]), index);
            due("find(3) of " + paths[index], look(x, 3, paths[index]), index);
        }
        Statute y = thirtyAnd(30);
        due("the last position of sixty", look(y, 1, "28"), 59);
        due("a two-digit child", look(y, 1, "2(30)"), 33);
        due("three letters", look(threeLetters(), -1, "10AAA(1AAA)(1AAA)"), 20);
    }

    @Says(FIRST_ERROR)
    private static void promise23FirstErrorCounts() {
        due("day before syntax", look(small(), -2, "x"), NO_SUCH_DAY);
        due("day before an empty input", small().find(10000), NO_SUCH_DAY);
        due("day before a path that is not there", look(small(), 10000, "9"), NO_SUCH_DAY);
        due("syntax before a path that is not there", look(small(), -1, "9(9"), SYNTAX_ERROR - 3);
    }

    @Says({"Looks up the path in the input and clears the input.", "except that addAmendment and find always clear the input"})
    private static void promise23InputIsAlwaysCleared() {
        Statute x = small();
        look(x, -1, "1(1)");
        due("after a position", x.clearInput(), 0);
        look(x, -1, "9");
        due("after NONE", x.clearInput(), 0);
        look(x, -2, "1");
        due("after a day too small", x.clearInput(), 0);
        look(x, 10000, "1");
        due("after a day too large", x.clearInput(), 0);
        look(x, -1, "1(");
        due("after a syntax error", x.clearInput(), 0);
        look(x, -1, "1(1)");
        due("no second time", x.find(-1), SYNTAX_ERROR);
    }

    @Says(STATE_STAYS)
    private static void promise23RefusedCallsChangeNothing() {
        Maker maker = () -> scene("");
        changesNothing("a scene without input", maker, "a day too small", NO_SUCH_DAY, x -> look(x, -2, "1"));
        changesNothing("a scene without input", maker, "a syntax error", SYNTAX_ERROR - 2, x -> look(x, -1, "1("));
        changesNothing("a scene without input", maker, "no such provision", NONE, x -> look(x, 5, "9"));
        changesNothing("a scene without input", maker, "a position", 4, x -> look(x, 5, "1A"));
    }

    // ---- promise 24: firstDifference

    @Says({"NO_SUCH_DAY if a day is out of range.", "`day`: the day of one version, -1 to 9999",
        "`other`: the day of the other version, -1 to 9999"})
    private static void promise24DayOutOfRange() {
        daysOutOfRange((x, day) -> x.firstDifference(day, 0));
        daysOutOfRange((x, day) -> x.firstDifference(0, day));
        daysOutOfRange((x, day) -> x.firstDifference(day, day));
        Statute x = small();
        amend(x, 0, "replace 1 5");
        amend(x, 9999, "replace 1 6");
        due("day -1 and day 0", x.firstDifference(-1, 0), 0);
        due("day 9999 and day 9998", x.firstDifference(9999, 9998), 0);
        due("day 0 and day 9998", x.firstDifference(0, 9998), NONE);
        due("day -1 twice", x.firstDifference(-1, -1), NONE);
        due("day 9999 twice", x.firstDifference(9999, 9999), NONE);
    }

    @Says("Returns the position, or NONE if there is none")
    private static void promise24NoDifference() {
        due("of empty texts", new Statute().firstDifference(-1, 9999), NONE);
        Statute x = small();
        amend(x, 2, "replace 1 10;repeal 9;renumber 1");
        due("an amendment without effect", x.firstDifference(-1, 2), NONE);
        amend(x, 3, "insert 2 5;repeal 2A");
        due("a position more", x.firstDifference(2, 3), 5);
        due("no difference after one", x.firstDifference(2, -1), NONE);
        due("no difference after one, the other way", x.firstDifference(-1, 2), NONE);
        Statute y = thirtyAnd(30);
        amend(y, 2, "repeal 99");
        due("sixty positions", y.firstDifference(1, 2), NONE);
    }

    private static void differenceDue(String text, int want) {
        Statute x = small();
        amend(x, 3, text);
        due("after " + text, x.firstDifference(2, 3), want);
        due("after " + text + ", the other way", x.firstDifference(3, 2), want);
    }

    @Says("in their paths, their texts or whether they are repealed, or if only one version has such a position")
    private static void promise24EachKindOfDifference() {
        differenceDue("replace 1 5", 0);
        differenceDue("replace 2 5", 4);
        differenceDue("replace 2 5;replace 1(2) 5", 3);
        differenceDue("repeal 2", 4);
        differenceDue("repeal 1(1)(1)", 2);
        differenceDue("move 2 1", 4);
        differenceDue("move 1 2", 0);
        differenceDue("insert 2 5", 5);
        differenceDue("insert 1 11", 4);
        differenceDue("repeal 1(2);renumber 1", 3);
        Statute x = sections(1);
        x.addProvision(0, 5);
        amend(x, 3, "repeal 1(1);renumber 1");
        due("the last position is gone", x.firstDifference(2, 3), 1);
        due("the last position is gone, the other way", x.firstDifference(3, 2), 1);
        Statute y = thirtyAnd(30);
        amend(y, 2, "replace 28 9");
        due("at position 59", y.firstDifference(1, 2), 59);
    }

    @Says("They differ at a position if the provisions there differ in their paths, their texts or whether they are repealed")
    private static void promise24OriginsDoNotCount() {
        Statute x = sections(1);
        x.addProvision(0, 5);
        x.addProvision(0, 5);
        amend(x, 3, "move 1(1) 1(2);renumber 1");
        due("the origin has changed", x.originAt(3, 1), 2);
        due("other origins", x.firstDifference(2, 3), NONE);
        amend(x, 4, "repeal 1(1);renumber 1;add 1 5");
        due("one that an amendment created", x.originAt(4, 2), NONE);
        due("created ones", x.firstDifference(3, 4), NONE);
    }

    @Says(ONLY_ANSWERS)
    private static void promise24OnlyAnswers() {
        onlyAnswers("firstDifference", x -> x.firstDifference(-1, 5), x -> x.firstDifference(5, -2),
            x -> x.firstDifference(5, 5));
    }

    // ---- promise 25: referenceCountAt

    @Says({"NO_SUCH_DAY if day is out of range (checked first)",
        "`day`: the day of the version, 0 to 9999, or -1 for the original text"})
    private static void promise25DayOutOfRange() {
        daysOutOfRange((x, day, index) -> x.referenceCountAt(day, index));
    }

    @Says({"NO_SUCH_POSITION if there is no such position.", "`index`: the position in the version, from 0"})
    private static void promise25PositionOutOfRange() {
        positionsOutOfRange((x, day, index) -> x.referenceCountAt(day, index));
        endsAre((x, day, index) -> x.referenceCountAt(day, index), 0, 0, 0);
    }

    @Says("Returns 0 to 4")
    private static void promise25ZeroToFour() {
        Statute x = small();
        amend(x, 1, "insert 2 1");
        for (int count = 0; count < 4; count++) {
            due("referenceCountAt(-1, 4)", x.referenceCountAt(-1, 4), count);
            due("referenceCountAt(1, 4)", x.referenceCountAt(1, 4), count);
            x.addReference(1, 0);
        }
        x.addReference(1, 0);
        due("referenceCountAt(-1, 4)", x.referenceCountAt(-1, 4), 4);
        due("referenceCountAt(1, 4)", x.referenceCountAt(1, 4), 4);
        due("of another one", x.referenceCountAt(-1, 0), 0);
    }

    @Says("Provisions that are created by an amendment have no references.")
    private static void promise25CreatedOnesHaveNone() {
        Statute x = small();
        for (int provision = 0; provision < 5; provision++) {
            x.addReference(provision, 0);
        }
        amend(x, 1, "insert 1 1;add 1 1");
        int[] counts = {1, 1, 1, 1, 0, 0, 1};
        for (int index = 0; index < 7; index++) {
            due("referenceCountAt(1, " + index + ")", x.referenceCountAt(1, index), counts[index]);
        }
    }

    @Says("The references of a provision stay with it")
    private static void promise25TheyStayWithTheProvision() {
        Statute x = small();
        x.addReference(2, 0);
        x.addReference(2, 4);
        amend(x, 1, "move 1(1) 1(2)");
        amend(x, 2, "repeal 1(2A)");
        due("moved", x.referenceCountAt(1, 2), 2);
        due("where it was", x.referenceCountAt(1, 1), 0);
        due("repealed, with repealed targets", x.referenceCountAt(2, 2), 2);
    }

    @Says(ONLY_ANSWERS)
    private static void promise25OnlyAnswers() {
        onlyAnswers("referenceCountAt", x -> x.referenceCountAt(5, 0), x -> x.referenceCountAt(-2, 0),
            x -> x.referenceCountAt(-1, 5));
    }

    // ---- promise 26: referenceAt

    @Says({"NO_SUCH_DAY if day is out of range (checked first)",
        "`day`: the day of the version, 0 to 9999, or -1 for the original text"})
    private static void promise26DayOutOfRange() {
        daysOutOfRange((x, day, index) -> x.referenceAt(day, index, 0));
        daysOutOfRange((x, day, index) -> x.referenceAt(day, index, -1));
    }

    @Says({"NO_SUCH_POSITION if there is no such position in the version (checked second)",
        "`index`: the position in the version, from 0"})
    private static void promise26PositionOutOfRange() {
        positionsOutOfRange((x, day, index) -> x.referenceAt(day, index, 0));
        positionsOutOfRange((x, day, index) -> x.referenceAt(day, index, -1));
        positionsOutOfRange((x, day, index) -> x.referenceAt(day, index, 4));
    }

    @Says({"NONE if the provision has no such reference",
        "`reference`: the number of the reference, from 0, in the order in which they were added"})
    private static void promise26NoSuchReference() {
        Statute x = small();
        int[] positions = {4, 0, 2, 3};
        int[] targets = {1, 0, 4, 3};
        for (int count = 0; count < 4; count++) {
            for (int reference : new int[] {MIN, -9, -1, count, count + 1, 4, MAX}) {
                due("reference " + reference + " of " + count, x.referenceAt(-1, 0, reference), NONE);
            }
            x.addReference(0, targets[count]);
            due("reference " + count, x.referenceAt(-1, 0, count), positions[count]);
        }
        due("reference 0", x.referenceAt(-1, 0, 0), 4);
        due("reference 4", x.referenceAt(-1, 0, 4), NONE);
        due("of one without references", x.referenceAt(-1, 1, 0), NONE);
        amend(x, 1, "insert 1 1");
        due("of one that an amendment created", x.referenceAt(1, 4, 0), NONE);
    }

    @Says("each leads to the provision it always led to, wherever that one was moved")
    private static void promise26WhereverItWasMoved() {
        Statute x = small();
        x.addReference(1, 2);
        x.addReference(1, 4);
        x.addReference(2, 0);
        amend(x, 1, "move 1(1) 1(2)");
        amend(x, 2, "move 1 2");
        amend(x, 3, "renumber 2A");
        due("moved, day 1", x.referenceAt(1, 4, 0), 2);
        due("moved along, day 1", x.referenceAt(1, 4, 1), 3);
        due("moved behind it, day 2", x.referenceAt(2, 0, 0), 3);
        due("moved along, day 2", x.referenceAt(2, 0, 1), 4);
        due("of the moved one itself, day 2", x.referenceAt(2, 3, 0), 1);
        due("renumbered, day 3", x.referenceAt(3, 0, 0), 3);
        due("the original", x.referenceAt(-1, 4, 0), 1);
        amend(x, 4, "add 2 5");
        due("a new one before it, day 4", x.referenceAt(4, 0, 0), 4);
    }

    @Says({"A reference is dangling in a version if that provision is repealed or was removed there.",
        "or DANGLING if the reference is dangling"})
    private static void promise26Dangling() {
        Statute x = small();
        x.addReference(1, 2);
        x.addReference(1, 4);
        x.addReference(1, 3);
        x.addReference(1, 1);
        amend(x, 1, "repeal 1(1)(1)");
        amend(x, 2, "repeal 1(1)");
        amend(x, 3, "renumber 1");
        amend(x, 4, "repeal 2");
        due("day 0", x.referenceAt(0, 4, 1), 2);
        due("its target is repealed", x.referenceAt(1, 4, 1), DANGLING);
        due("another target is not", x.referenceAt(1, 4, 0), 1);
        due("day 2", x.referenceAt(2, 4, 0), DANGLING);
        due("its target is removed", x.referenceAt(3, 2, 0), DANGLING);
        due("a target of the removed one", x.referenceAt(3, 2, 1), DANGLING);
        due("1(2) is 1(1) now", x.referenceAt(3, 2, 2), 1);
        due("to itself", x.referenceAt(3, 2, 3), 2);
        due("of a repealed one", x.referenceAt(4, 2, 2), 1);
        due("of a repealed one to itself", x.referenceAt(4, 2, 3), DANGLING);
        due("no such reference is no dangling one", x.referenceAt(4, 2, 4), NONE);
        due("in the original nothing is", x.referenceAt(-1, 4, 0), 1);
        Statute y = small();
        y.addReference(1, 0);
        amend(y, 1, "repeal 1");
        due("to the first position", y.referenceAt(0, 4, 0), 0);
        due("to the first position, repealed", y.referenceAt(1, 4, 0), DANGLING);
    }

    @Says("Returns the position of the provision to which the reference leads")
    private static void promise26FirstAndLastPosition() {
        Statute x = thirtyAnd(30);
        x.addReference(0, 29);
        x.addReference(29, 0);
        due("to position 59", x.referenceAt(1, 0, 0), 59);
        due("to position 0", x.referenceAt(1, 59, 0), 0);
        due("to position 29 in the original", x.referenceAt(-1, 0, 0), 29);
    }

    @Says(ONLY_ANSWERS)
    private static void promise26OnlyAnswers() {
        onlyAnswers("referenceAt", x -> x.referenceAt(5, 0, 0), x -> x.referenceAt(5, 0, 1), x -> x.referenceAt(-2, 0, 0),
            x -> x.referenceAt(-1, 5, 0), x -> x.referenceAt(-1, 0, 2));
    }

    // ---- promise 27: danglingCount

    @Says({"NO_SUCH_DAY if day is out of range.", "`day`: the day of the version, 0 to 9999, or -1 for the original text"})
    private static void promise27DayOutOfRange() {
        daysOutOfRange((x, day) -> x.danglingCount(day));
        Statute x = small();
        x.addReference(0, 1);
        amend(x, 0, "repeal 2");
        due("day -1", x.danglingCount(-1), 0);
        due("day 0", x.danglingCount(0), 1);
        due("day 9999", x.danglingCount(9999), 1);
    }

    @Says("Returns the number of dangling references of all provisions of a version that are not repealed.")
    private static void promise27ThoseOfRepealedOnesDoNotCount() {
        due("of an empty text", new Statute().danglingCount(9999), 0);
        Statute x = small();
        x.addReference(0, 2);
        x.addReference(0, 2);
        x.addReference(2, 2);
        x.addReference(4, 2);
        x.addReference(1, 4);
        x.addReference(3, 0);
        amend(x, 1, "repeal 1(1)");
        amend(x, 2, "renumber 1");
        amend(x, 3, "repeal 2");
        amend(x, 4, "repeal 1");
        due("day 0", x.danglingCount(0), 0);
        due("twice to the same one, and once to its child", x.danglingCount(1), 3);
        due("removed ones", x.danglingCount(2), 3);
        due("2 is repealed", x.danglingCount(3), 2);
        due("all are repealed", x.danglingCount(4), 0);
    }

    @Says("Returns the number; NO_SUCH_DAY")
    private static void promise27AllThatThereCanBe() {
        Statute x = sections(30);
        for (int provision = 0; provision < 30; provision++) {
            for (int reference = 0; reference < 4; reference++) {
                x.addReference(provision, 29);
            }
        }
        amend(x, 0, "repeal 30");
        due("all but those of the repealed one", x.danglingCount(0), 116);
        due("the original", x.danglingCount(-1), 0);
    }

    @Says(ONLY_ANSWERS)
    private static void promise27OnlyAnswers() {
        onlyAnswers("danglingCount", x -> x.danglingCount(5), x -> x.danglingCount(-2));
    }

    // ---- promise 28: conflictCount

    @Says({"NO_SUCH_DAY if day is out of range.", "`day`: the day of the version, 0 to 9999, or -1 for the original text"})
    private static void promise28DayOutOfRange() {
        daysOutOfRange((x, day) -> x.conflictCount(day));
        Statute x = small();
        amend(x, 0, "repeal 9");
        amend(x, 9999, "repeal 9");
        due("day -1", x.conflictCount(-1), 0);
        due("day 0", x.conflictCount(0), 1);
        due("day 9998", x.conflictCount(9998), 1);
        due("day 9999", x.conflictCount(9999), 2);
    }

    @Says("Returns the number of conflicts that occur when a version is computed.")
    private static void promise28NoneAndMany() {
        Statute x = small();
        amend(x, 1, "replace 1 1;replace 2 2");
        due("none", x.conflictCount(1), 0);
        amend(x, 2, repeated("add 9 9", 15));
        amend(x, 2, repeated("add 9 9", 15));
        due("thirty", x.conflictCount(2), 30);
        amend(x, 2, repeated("add 9 9", 15));
        due("forty-five", x.conflictCount(2), 45);
        due("the last one's amendment", x.conflictAmendment(2, 44), 3);
        due("the last one's instruction", x.conflictInstruction(2, 44), 14);
        due("the day before", x.conflictCount(1), 0);
    }

    @Says("An instruction that cannot be applied is a conflict")
    private static void promise28OnlyWhatCannotBeApplied() {
        Statute x = small();
        amend(x, 1, "insert 1 1;insert 1 1;repeal 1A;repeal 1A;renumber 1;add 1(1)(1) 1");
        due("conflicts", x.conflictCount(1), 3);
        due("the first", x.conflictInstruction(1, 0), 1);
        due("the second", x.conflictInstruction(1, 1), 3);
        due("the third", x.conflictInstruction(1, 2), 5);
    }

    @Says(ONLY_ANSWERS)
    private static void promise28OnlyAnswers() {
        onlyAnswers("conflictCount", x -> x.conflictCount(5), x -> x.conflictCount(-2));
    }

    // ---- promises 29 to 31: conflictAmendment, conflictInstruction, conflictReason

    /** Three conflicts on day 5, the first two of which occur on day 2. */
    private static Statute threeConflicts() {
        Statute x = small();
        amend(x, 5, "replace 1 5;replace 1 6;add 1(1)(1) 1");
        amend(x, 2, "repeal 9;replace 1 5;repeal 2;repeal 2");
        return x;
    }

    private static void conflictsAre(AtPosition call, long first, long second, long third) {
        Statute x = threeConflicts();
        for (int conflict : new int[] {MIN, -9, -1, 3, 4, 119, 120, MAX}) {
            due("conflict " + conflict + " of day 5", call.on(x, 5, conflict), NONE);
        }
        due("conflict 0 of day -1", call.on(x, -1, 0), NONE);
        due("conflict 0 of day 1", call.on(x, 1, 0), NONE);
        due("conflict 2 of day 4", call.on(x, 4, 2), NONE);
        for (int day : new int[] {2, 4, 5, 9999}) {
            due("conflict 0 of day " + day, call.on(x, day, 0), first);
            due("conflict 1 of day " + day, call.on(x, day, 1), second);
        }
        due("conflict 2 of day 5", call.on(x, 5, 2), third);
        due("conflict 2 of day 9999", call.on(x, 9999, 2), third);
        due("conflict 0 of an empty text", call.on(new Statute(), 0, 0), NONE);
    }

    @Says({"NO_SUCH_DAY if day is out of range (checked first)",
        "`day`: the day of the version, 0 to 9999, or -1 for the original text"})
    private static void promise29DayOutOfRange() {
        daysOutOfRange((x, day, conflict) -> x.conflictAmendment(day, conflict));
    }

    @Says({"NONE if there is no such conflict", "Conflicts are numbered from 0 in the order in which they occur."})
    private static void promise29NoSuchConflict() {
        conflictsAre((x, day, conflict) -> x.conflictAmendment(day, conflict), 1, 1, 0);
    }

    @Says("Conflicts are numbered from 0 in the order in which they occur.")
    private static void promise29EightAmendments() {
        Statute x = new Statute();
        for (int number = 0; number < 8; number++) {
            amend(x, 8 - number, "repeal 1");
        }
        for (int conflict = 0; conflict < 8; conflict++) {
            due("conflict " + conflict, x.conflictAmendment(8, conflict), 7 - conflict);
        }
        due("conflict 8", x.conflictAmendment(8, 8), NONE);
        due("conflict 7 of day 7", x.conflictAmendment(7, 7), NONE);
    }

    @Says(ONLY_ANSWERS)
    private static void promise29OnlyAnswers() {
        onlyAnswers("conflictAmendment", x -> x.conflictAmendment(5, 0), x -> x.conflictAmendment(-2, 0),
            x -> x.conflictAmendment(5, 1));
    }

    @Says({"NO_SUCH_DAY if day is out of range (checked first)",
        "`day`: the day of the version, 0 to 9999, or -1 for the original text"})
    private static void promise30DayOutOfRange() {
        daysOutOfRange((x, day, conflict) -> x.conflictInstruction(day, conflict));
    }

    @Says("NONE if there is no such conflict")
    private static void promise30NoSuchConflict() {
        conflictsAre((x, day, conflict) -> x.conflictInstruction(day, conflict), 0, 3, 2);
    }

    @Says("Returns the number of the instruction in its amendment, from 0")
    private static void promise30FirstAndLastInstruction() {
        Statute x = small();
        amend(x, 1, repeated("add 9 9", 15));
        for (int conflict = 0; conflict < 15; conflict++) {
            due("conflict " + conflict, x.conflictInstruction(1, conflict), conflict);
        }
        due("conflict 15", x.conflictInstruction(1, 15), NONE);
    }

    @Says(ONLY_ANSWERS)
    private static void promise30OnlyAnswers() {
        onlyAnswers("conflictInstruction", x -> x.conflictInstruction(5, 0), x -> x.conflictInstruction(-2, 0),
            x -> x.conflictInstruction(5, 1));
    }

    @Says({"NO_SUCH_DAY if day is out of range (checked first)",
        "`day`: the day of the version, 0 to 9999, or -1 for the original text"})
    private static void promise31DayOutOfRange() {
        daysOutOfRange((x, day, conflict) -> x.conflictReason(day, conflict));
    }

    @Says({"NONE if there is no such conflict", "Returns the reason, 1 to 5"})
    private static void promise31NoSuchConflict() {
        conflictsAre((x, day, conflict) -> x.conflictReason(day, conflict), 1, 2, 3);
    }

    /** The reasons of the conflicts of an amendment of the small text, in which 1(2) is repealed. */
    private static void reasonsOf(String text, int... reasons) {
        Statute x = small();
        amend(x, 0, "repeal 1(2)");
        due("addAmendment of " + text, amend(x, 1, text), 1);
        due("conflicts of " + text, x.conflictCount(1), reasons.length);
        for (int at = 0; at < reasons.length; at++) {
            due("reason " + at + " of " + text, x.conflictReason(1, at), reasons[at]);
        }
    }

    @Says("1: P does not exist, or the instruction is move and Q does not exist.")
    private static void promise31ReasonOne() {
        reasonsOf("insert 3 1;add 3 1;replace 3 1;repeal 3;renumber 3", 1, 1, 1, 1, 1);
        reasonsOf("move 3 1;move 1 3;move 3 3;move 3 4", 1, 1, 1, 1);
        reasonsOf("repeal 1(3);repeal 1(1)(2);repeal 2(1);repeal 1A;repeal 10", 1, 1, 1, 1, 1);
        reasonsOf("repeal 1(1);renumber 1;repeal 1(1);repeal 1(1)(1)", 1, 1);
        reasonsOf("move 1 2;repeal 1;repeal 1(1);repeal 2A(1)", 1, 1);
    }

    @Says("2: P is repealed, or the instruction is move and Q is repealed.")
    private static void promise31ReasonTwo() {
        reasonsOf("insert 1(2) 1;add 1(2) 1;replace 1(2) 1;repeal 1(2);renumber 1(2)", 2, 2, 2, 2, 2);
        reasonsOf("move 1(2) 1(1);move 1(1) 1(2)", 2, 2);
        reasonsOf("repeal 1(1);insert 1(1)(1) 1;add 1(1) 1;replace 1(1)(1) 1", 2, 2, 2);
        reasonsOf("repeal 1;add 1 1;insert 1 1;renumber 1;move 1 2;move 2 1", 2, 2, 2, 2, 2);
    }

    @Says("3: the instruction is add and P has level 3, or the instruction is move and P and Q have different levels or Q is P.")
    private static void promise31ReasonThree() {
        reasonsOf("add 1(1)(1) 1", 3);
        reasonsOf("move 1 1;move 1(1) 1(1);move 1(1)(1) 1(1)(1)", 3, 3, 3);
        reasonsOf("move 1 1(1);move 1(1) 1;move 1(1) 1(1)(1);move 1(1)(1) 1(1)", 3, 3, 3, 3);
        reasonsOf("move 2 1(1);move 2 1(1)(1);move 1(1)(1) 2", 3, 3, 3);
        reasonsOf("insert 1(1)(1) 1;replace 1(1)(1) 1;renumber 1(1)(1);repeal 1(1)(1)");
    }

    @Says("4: the instruction is insert or add and the version has 60 provisions already.")
    private static void promise31ReasonFour() {
        Statute x = thirtyAnd(29);
        amend(x, 2, "insert 3 1;insert 3 1;insert 4 1;add 2 1");
        due("59 provisions", x.provisionCount(1), 59);
        due("conflicts then", x.conflictCount(1), 0);
        due("60 provisions", x.provisionCount(2), 60);
        due("conflicts then", x.conflictCount(2), 3);
        for (int conflict = 0; conflict < 3; conflict++) {
            due("reason " + conflict, x.conflictReason(2, conflict), 4);
        }
        amend(x, 3, "replace 4 9;move 4 5;repeal 6;renumber 7");
        due("the others are no conflicts", x.conflictCount(3), 3);
        amend(x, 4, "repeal 2(1);renumber 2;add 2 1;add 2 1");
        due("room for one again", x.conflictCount(4), 4);
        due("its reason", x.conflictReason(4, 3), 4);
        due("its instruction", x.conflictInstruction(4, 3), 3);
    }

    @Says("5: there is no label for the provision.")
    private static void promise31ReasonFive() {
        reasonsOf("insert 1 1;insert 1 2", 5);
        reasonsOf("insert 1 1;move 2 1", 5);
        reasonsOf("insert 1(1) 1;insert 1(1) 1;insert 1(1)(1) 1;insert 1(1)(1) 1", 5, 5);
        reasonsOf("insert 1 1;insert 1A 1;insert 1A 1;insert 1A 1", 5);
        reasonsOf("insert 1 1;insert 1A 1;insert 1A 1;insert 1AA 1;insert 1AA 1;insert 1AA 1", 5);
        reasonsOf("insert 1 1;insert 1A 1;insert 1A 1;insert 1AA 1;insert 1AA 1;move 2 1AA", 5);
        Statute x = sections(1);
        int a = x.insertProvision(0, 0);
        x.insertProvision(a, 0);
        int aa = x.insertProvision(a, 0);
        x.insertProvision(aa, 0);
        int last = x.insertProvision(aa, 0);
        for (int letter = 1; letter < 25; letter++) {
            last = x.insertProvision(last, 0);
        }
        due("the last one", path(x, -1, 27), "1AAY");
        amend(x, 0, "insert 1AAY 1");
        amend(x, 1, "insert 1AAZ 1");
        due("its neighbour has a label", path(x, 0, 28), "1AAZ");
        due("conflicts", x.conflictCount(0), 0);
        due("after 1AAZ and before 1AB", x.conflictReason(1, 0), 5);
        amend(x, 2, "move 1AB 1B;insert 1AAZ 1");
        due("after 1AAZ and before 1B", path(x, 2, 29), "1AB");
    }

    @Says("For move, the label is determined after P was removed from its place.")
    private static void promise31MoveFreesItsLabel() {
        reasonsOf("insert 1 1;move 1A 1");
        reasonsOf("insert 1(1) 1;move 1(1A) 1(1)");
        reasonsOf("insert 1(1)(1) 1;move 1(1)(1A) 1(1)(1)");
        Statute x = sections(2);
        amend(x, 0, "insert 1 5;insert 1A 6;insert 1A 7");
        amend(x, 1, "move 1A 1");
        amend(x, 2, "move 1AA 1A");
        amend(x, 3, "move 1B 1A");
        due("day 0", whole(x, 0), "1:0 1A:5 1AA:7 1B:6 2:1");
        due("1A again", whole(x, 1), "1:0 1A:5 1AA:7 1B:6 2:1");
        due("1AA again", whole(x, 2), "1:0 1A:5 1AA:7 1B:6 2:1");
        due("no label before 1AA", x.conflictReason(3, 0), 5);
        amend(x, 4, "move 1AA 2;move 1B 1A");
        due("1B again", whole(x, 4), "1:0 1A:5 1B:6 2:1 2A:7");
        due("conflicts", x.conflictCount(4), 1);
    }

    @Says("The reason of a conflict is the first of these that applies")
    private static void promise31FirstReasonCounts() {
        reasonsOf("move 1(2) 3;move 3 1(2)", 1, 1);
        reasonsOf("move 1 3(1);move 3(1) 1", 1, 1);
        reasonsOf("move 1(2) 1(2);move 1(2) 1;move 1 1(2)", 2, 2, 2);
        reasonsOf("repeal 1(1)(1);add 1(1)(1) 1", 2);
        reasonsOf("insert 1 1;repeal 1;insert 1 1;move 2 1", 2, 2);
        reasonsOf("insert 1 1;move 1(1) 1;move 1 1", 3, 3);
        Statute x = thirtyAnd(30);
        amend(x, 2, "insert 9(1) 1;repeal 9;insert 9 1;add 9 1;add 1(1)(1) 1;insert 2(1) 1");
        int[] reasons = {1, 2, 2, 3, 4};
        for (int conflict = 0; conflict < 5; conflict++) {
            due("reason " + conflict + " in a full version", x.conflictReason(2, conflict), reasons[conflict]);
        }
        Statute y = thirty();
        amend(y, 0, "insert 3 1");
        amend(y, 1, repeated("add 2 1", 15));
        amend(y, 2, repeated("add 2 1", 14));
        amend(y, 3, "insert 3 1;move 4 3");
        due("full", y.provisionCount(2), 60);
        due("full before label", y.conflictReason(3, 0), 4);
        due("for a move there is room", y.conflictReason(3, 1), 5);
    }

    @Says(ONLY_ANSWERS)
    private static void promise31OnlyAnswers() {
        onlyAnswers("conflictReason", x -> x.conflictReason(5, 0), x -> x.conflictReason(-2, 0),
            x -> x.conflictReason(5, 1));
    }

    // ---- promise 32: doCommute

    @Says("NO_SUCH_AMENDMENT if one of them does not exist.")
    private static void promise32AmendmentThatIsNone() {
        due("of none", new Statute().doCommute(0, 0), NO_SUCH_AMENDMENT);
        Statute x = small();
        amend(x, 1, "repeal 1");
        amend(x, 2, "repeal 2");
        for (int amendment : new int[] {MIN, -3, -1, 2, 3, 8, MAX}) {
            due("amendment " + amendment, x.doCommute(amendment, 0), NO_SUCH_AMENDMENT);
            due("other " + amendment, x.doCommute(0, amendment), NO_SUCH_AMENDMENT);
            due("both " + amendment, x.doCommute(amendment, amendment), NO_SUCH_AMENDMENT);
        }
        due("the smallest and the greatest", x.doCommute(0, 1), 1);
        due("the greatest and the smallest", x.doCommute(1, 0), 1);
        x.removeLastAmendment();
        due("one that was removed", x.doCommute(0, 1), NO_SUCH_AMENDMENT);
    }

    @Says("`other`: the number of another amendment, or of the same one")
    private static void promise32TheSameOne() {
        Statute x = small();
        amend(x, 1, "add 1 1;move 1(1) 1(2);renumber 1");
        due("with itself", x.doCommute(0, 0), 1);
        due("the eighth with itself", eightAmendments().doCommute(7, 7), 1);
        due("the eighth and the seventh", eightAmendments().doCommute(7, 6), 0);
        due("the eighth and the first", eightAmendments().doCommute(7, 0), 0);
    }

    private static Statute eightAmendments() {
        Statute x = small();
        for (int number = 0; number < 8; number++) {
            amend(x, 0, "replace 1 " + number);
        }
        return x;
    }

    private static void commute(String one, String two, int want) {
        Statute x = small();
        amend(x, 7, "repeal 1;repeal 2");
        amend(x, 5, one);
        amend(x, 3, two);
        due(one + " and " + two, x.doCommute(1, 2), want);
        due(two + " and " + one, x.doCommute(2, 1), want);
    }

    @Says("applied to the original text, without other amendments")
    private static void promise32WithoutOtherAmendments() {
        commute("replace 1 5", "replace 1 6", 0);
        commute("replace 1 5", "replace 2 6", 1);
        Statute x = small();
        amend(x, 0, "insert 1 5");
        amend(x, 1, "replace 1A 6");
        amend(x, 2, "repeal 1A");
        due("without 1A neither is applied", x.doCommute(1, 2), 1);
        due("what creates it and what changes it", x.doCommute(0, 1), 0);
        x.setCommencement(0, 9999);
        due("days do not count", x.doCommute(0, 1), 0);
    }

    @Says({"Returns 1 if they commute, otherwise 0",
        "Two results are the same if they have the same number of provisions and these have the same paths and texts"})
    private static void promise32CountPathsAndTexts() {
        commute("insert 1 1", "insert 1 1", 1);
        commute("insert 1 1", "insert 1 2", 0);
        commute("add 1 1", "add 1 1", 1);
        commute("add 1 1", "add 1 2", 0);
        commute("add 1 1", "add 2 2", 1);
        commute("add 2 5", "repeal 2(1);renumber 2", 0);
        commute("insert 1(1) 5", "renumber 1", 0);
        commute("move 1 2", "replace 1 5", 0);
        commute("move 1(1) 1(2)", "replace 2 5", 1);
        commute("repeal 9", "replace 1 5", 1);
        commute("repeal 1(1);renumber 1", "add 1 13;repeal 1(3)", 0);
    }

    @Says("are repealed or not alike")
    private static void promise32Repealed() {
        commute("repeal 1", "repeal 2", 1);
        commute("repeal 1", "repeal 1", 1);
        commute("repeal 1(1)", "repeal 1", 1);
        commute("repeal 1", "replace 1 5", 0);
        commute("repeal 1", "replace 1 10", 1);
        commute("repeal 1", "repeal 1(1);replace 2 5", 1);
        commute("insert 2 5;repeal 2A", "insert 2 5", 1);
        commute("insert 1 5", "repeal 1A", 0);
    }

    @Says("have the same identifiers in the original text, or none")
    private static void promise32Identifiers() {
        Statute x = sections(1);
        x.addProvision(0, 5);
        x.addProvision(0, 5);
        x.addProvision(0, 5);
        amend(x, 0, "move 1(1) 1(3);renumber 1");
        amend(x, 0, "move 1(1) 1(2);renumber 1");
        due("other provisions at the same paths", x.doCommute(0, 1), 0);
        Statute y = sections(1);
        y.addProvision(0, 5);
        amend(y, 0, "add 1 5;move 1(1) 1(2);renumber 1");
        amend(y, 0, "repeal 1(1);renumber 1");
        due("one of the original text here, a created one there", y.doCommute(0, 1), 0);
        due("the other way", y.doCommute(1, 0), 0);
    }

    @Says("have the same identifiers in the original text, or none")
    private static void promise32CreatorsDoNotCount() {
        commute("insert 2 5", "insert 2 5;replace 2A 5", 1);
        commute("insert 2 5", "insert 2 5", 1);
    }

    @Says("Two results are the same if they have the same number of provisions")
    private static void promise32SixtyProvisions() {
        Statute x = thirtyAnd(30);
        due("sixty on both ways", x.doCommute(0, 1), 1);
        amend(x, 2, "add 2 1;replace 28 5");
        amend(x, 3, "add 2 2");
        due("other texts", x.doCommute(2, 3), 0);
    }

    @Says("Two results are the same if they have the same number of provisions")
    private static void promise32AfterALargerVersion() {
        Statute x = small();
        amend(x, 1, "replace 1 5");
        amend(x, 2, "replace 2 5");
        amend(x, 3, "insert 2 5;add 2 6");
        due("the larger version", x.provisionCount(3), 7);
        due("two that commute", x.doCommute(0, 1), 1);
        due("again, after one of them alone", x.provisionCount(1) + x.doCommute(1, 0), 6);
    }

    @Says(ONLY_ANSWERS)
    private static void promise32OnlyAnswers() {
        onlyAnswers("doCommute", x -> x.doCommute(0, 1), x -> x.doCommute(1, 1), x -> x.doCommute(0, 2));
    }

    // ---- promise 33: averageLevel

    @Says({"NO_SUCH_DAY if day is out of range.", "`day`: the day of the version, 0 to 9999, or -1 for the original text"})
    private static void promise33DayOutOfRange() {
        daysOutOfRange((x, day) -> x.averageLevel(day));
        Statute x = small();
        amend(x, 0, "repeal 1");
        amend(x, 9999, "repeal 2");
        due("day -1", x.averageLevel(-1), Float.floatToIntBits(9f / 5f));
        due("day 0", x.averageLevel(0), Float.floatToIntBits(1f));
        due("day 9998", x.averageLevel(9998), Float.floatToIntBits(1f));
        due("day 9999", x.averageLevel(9999), 0x7fc00000);
    }

    @Says("Returns the bits of the float as given by Float.floatToIntBits, which are those of NaN if there are no such provisions")
    private static void promise33NoSuchProvisions() {
        due("an empty text", new Statute().averageLevel(-1), 0x7fc00000);
        due("an empty text on day 9999", new Statute().averageLevel(9999), 0x7fc00000);
        Statute x = sections(1);
        amend(x, 1, "repeal 1");
        due("before the repeal", x.averageLevel(0), 0x3f800000);
        due("all repealed", x.averageLevel(1), 0x7fc00000);
    }

    @Says("Returns the average level of the provisions of a version that are not repealed, as a float")
    private static void promise33RepealedOnesDoNotCount() {
        Statute x = small();
        amend(x, 1, "repeal 1(1)(1)");
        amend(x, 2, "repeal 2");
        amend(x, 3, "insert 1(2) 5;add 1(2) 6");
        due("day 0", x.averageLevel(0), Float.floatToIntBits(9f / 5f));
        due("day 1", x.averageLevel(1), Float.floatToIntBits(6f / 4f));
        due("day 2", x.averageLevel(2), Float.floatToIntBits(5f / 3f));
        due("day 3", x.averageLevel(3), Float.floatToIntBits(10f / 5f));
    }

    private static Statute ofLevels(int sections, int subsections, int paragraphs) {
        Statute x = sections(sections);
        for (int at = 0; at < subsections; at++) {
            x.addProvision(0, 0);
        }
        for (int at = 0; at < paragraphs; at++) {
            x.addProvision(sections, 0);
        }
        return x;
    }

    @Says("the sum of their levels as a float divided by their number as a float")
    private static void promise33AllQuotientsOfThirty() {
        for (int count = 1; count <= 30; count++) {
            for (int paragraphs = 0; paragraphs <= Math.max(count - 2, 0); paragraphs++) {
                int subsections = paragraphs == 0 ? 0 : 1;
                int sections = count - subsections - paragraphs;
                Statute x = ofLevels(sections, subsections, paragraphs);
                float sum = sections + 2 * subsections + 3 * paragraphs;
                due(sum + " / " + count, x.averageLevel(-1), Float.floatToIntBits(sum / (float) count));
            }
        }
        Statute y = thirtyAnd(30);
        due("of sixty", y.averageLevel(1), Float.floatToIntBits(93f / 60f));
        amend(y, 2, "repeal 1");
        due("of fifty-seven", y.averageLevel(2), Float.floatToIntBits(87f / 57f));
    }

    @Says(ONLY_ANSWERS)
    private static void promise33OnlyAnswers() {
        onlyAnswers("averageLevel", x -> x.averageLevel(5), x -> x.averageLevel(-2));
    }

    // ---- promise 34: repealedShare

    @Says({"NO_SUCH_DAY if day is out of range.", "`day`: the day of the version, 0 to 9999, or -1 for the original text"})
    private static void promise34DayOutOfRange() {
        daysOutOfRange((x, day) -> x.repealedShare(day));
        Statute x = small();
        amend(x, 0, "repeal 1");
        amend(x, 9999, "repeal 2");
        due("day -1", x.repealedShare(-1), 0L);
        due("day 0", x.repealedShare(0), Double.doubleToLongBits(4.0 / 5.0));
        due("day 9998", x.repealedShare(9998), Double.doubleToLongBits(4.0 / 5.0));
        due("day 9999", x.repealedShare(9999), Double.doubleToLongBits(1.0));
    }

    @Says("Returns the bits of the double as given by Double.doubleToLongBits, which are those of NaN if the version has no provisions")
    private static void promise34NoProvisions() {
        due("an empty text", new Statute().repealedShare(-1), 0x7ff8000000000000L);
        due("an empty text on day 9999", new Statute().repealedShare(9999), 0x7ff8000000000000L);
        Statute x = sections(1);
        amend(x, 1, "repeal 1");
        due("none repealed", x.repealedShare(0), 0L);
        due("all repealed", x.repealedShare(1), 0x3ff0000000000000L);
    }

    @Says("their number as a double divided by the number of all provisions of the version as a double")
    private static void promise34AllQuotientsOfThirty() {
        for (int count = 1; count <= 30; count++) {
            for (int repealed = 1; repealed <= count; repealed++) {
                Statute x = ofLevels(count - repealed + 1, repealed - 1, 0);
                amend(x, 0, "repeal 1");
                due(repealed + " / " + count, x.repealedShare(0),
                    Double.doubleToLongBits((double) repealed / (double) count));
            }
        }
    }

    @Says("the number of all provisions of the version")
    private static void promise34AllProvisionsOfTheVersion() {
        Statute x = thirtyAnd(29);
        amend(x, 2, "repeal 1");
        amend(x, 3, "repeal 2");
        amend(x, 4, "add 3 1");
        due("3 / 59", x.repealedShare(2), Double.doubleToLongBits(3.0 / 59.0));
        due("33 / 59", x.repealedShare(3), Double.doubleToLongBits(33.0 / 59.0));
        due("33 / 60", x.repealedShare(4), Double.doubleToLongBits(33.0 / 60.0));
        Statute y = small();
        amend(y, 1, "repeal 1(1)");
        amend(y, 2, "renumber 1");
        due("before they are removed", y.repealedShare(1), Double.doubleToLongBits(2.0 / 5.0));
        due("after", y.repealedShare(2), 0L);
    }

    @Says(ONLY_ANSWERS)
    private static void promise34OnlyAnswers() {
        onlyAnswers("repealedShare", x -> x.repealedShare(5), x -> x.repealedShare(-2));
    }

    // ---- promise 35: newShelf

    @Says({"BAD_VALUE if shelf or type is out of range or length is greater than 10 (checked first)",
        "There are 3 shelves, numbered 0 to 2.", "`shelf`: the shelf, 0 to 2", "`type`: the type, 0 to 3",
        "`length`: the length, 0 to 10"})
    private static void promise35OutOfRange() {
        Statute x = small();
        for (int shelf : NO_SHELVES) {
            due("shelf " + shelf, x.newShelf(shelf, 0, 1), BAD_VALUE);
        }
        for (int type : new int[] {MIN, -1, 4, 5, MAX}) {
            due("type " + type, x.newShelf(0, type, 1), BAD_VALUE);
        }
        for (int length : new int[] {11, 12, MAX}) {
            due("length " + length, x.newShelf(0, 0, length), BAD_VALUE);
        }
        for (int shelf = 0; shelf < 3; shelf++) {
            for (int type = 0; type < 4; type++) {
                due("shelf " + shelf + ", type " + type, x.newShelf(shelf, type, 1), 1);
            }
        }
    }

    @Says({"BAD_VALUE if shelf or type is out of range or length is greater than 10 (checked first); NEGATIVE_LENGTH.",
        "`length`: the length, 0 to 10"})
    private static void promise35Lengths() {
        Statute x = small();
        for (int length : new int[] {MIN, -14, -2, -1}) {
            due("length " + length, x.newShelf(0, 0, length), NEGATIVE_LENGTH);
            due("it stays empty", x.shelved(0, 0), MISSING);
            due("it stays empty, seen by an index", x.shelved(0, 10), MISSING);
        }
        for (int length = 0; length <= 10; length++) {
            due("length " + length, x.newShelf(1, 0, length), 1);
            due("index " + (length - 1), x.shelved(1, length - 1), length == 0 ? INDEX_OUT_OF_RANGE : MISSING);
            due("index " + length, x.shelved(1, length), INDEX_OUT_OF_RANGE);
        }
    }

    @Says(FIRST_ERROR)
    private static void promise35FirstErrorCounts() {
        Statute x = small();
        due("shelf before length", x.newShelf(3, 0, -1), BAD_VALUE);
        due("shelf below before length", x.newShelf(-1, 0, -1), BAD_VALUE);
        due("type before length", x.newShelf(0, 4, -1), BAD_VALUE);
        due("type below before length", x.newShelf(0, -1, -1), BAD_VALUE);
    }

    @Says("Puts a new array, with all elements missing, on a shelf. The previous array is lost.")
    private static void promise35PreviousArrayIsLost() {
        Statute x = small();
        x.newShelf(0, 0, 10);
        for (int index = 0; index < 10; index++) {
            x.place(0, index, index % 5);
        }
        due("anew", x.newShelf(0, 0, 10), 1);
        for (int index = 0; index < 10; index++) {
            due("index " + index, x.shelved(0, index), MISSING);
        }
        due("another type", x.newShelf(0, 3, 4), 1);
        due("its type", x.place(0, 0, 0), WRONG_TYPE);
        due("its length", x.shelved(0, 4), INDEX_OUT_OF_RANGE);
    }

    @Says("A shelf is empty, or holds an array for provisions of one type")
    private static void promise35LengthZeroIsNotEmpty() {
        Statute x = small();
        x.newShelf(2, 0, 0);
        due("index 0", x.shelved(2, 0), INDEX_OUT_OF_RANGE);
        due("index -1", x.shelved(2, -1), INDEX_OUT_OF_RANGE);
        due("place", x.place(2, 0, 0), INDEX_OUT_OF_RANGE);
        due("copyShelf", x.copyShelf(2, 1), 0);
    }

    @Says(STATE_STAYS)
    private static void promise35RefusedCallsChangeNothing() {
        refused("a length too large", BAD_VALUE, x -> x.newShelf(0, 0, 11));
        refused("a type too large", BAD_VALUE, x -> x.newShelf(0, 4, 2));
        refused("a type too small", BAD_VALUE, x -> x.newShelf(2, -1, 2));
        refused("a negative length", NEGATIVE_LENGTH, x -> x.newShelf(0, 0, -1));
        refused("a shelf too large", BAD_VALUE, x -> x.newShelf(3, 0, 1));
    }

    // ---- promise 36: place

    @Says({"BAD_VALUE if shelf is out of range (checked first)", "`shelf`: the shelf, 0 to 2"})
    private static void promise36ShelfOutOfRange() {
        Statute x = small();
        for (int shelf : NO_SHELVES) {
            due("shelf " + shelf, x.place(shelf, 0, 0), BAD_VALUE);
        }
        for (int shelf = 0; shelf < 3; shelf++) {
            x.newShelf(shelf, 0, 1);
            due("shelf " + shelf, x.place(shelf, 0, shelf), 1);
        }
        for (int shelf = 0; shelf < 3; shelf++) {
            due("what is on shelf " + shelf, x.shelved(shelf, 0), shelf);
        }
    }

    @Says("NO_SUCH_PROVISION (checked second)")
    private static void promise36ProvisionThatIsNone() {
        Statute x = small();
        x.newShelf(0, 0, 2);
        amend(x, 0, "insert 1 1");
        for (int provision : new int[] {MIN, -11, -9, -2, -1, 5, 6, 30, MAX}) {
            due("provision " + provision, x.place(0, 0, provision), NO_SUCH_PROVISION);
        }
        due("the smallest identifier", x.place(0, 0, 0), 1);
        due("the greatest identifier", x.place(0, 1, 4), 1);
        due("the first", x.shelved(0, 0), 0);
        due("the last", x.shelved(0, 1), 4);
    }

    @Says("MISSING if the shelf is empty (checked third)")
    private static void promise36EmptyShelf() {
        Statute x = small();
        x.newShelf(1, 0, 1);
        due("shelf 0", x.place(0, 0, 0), MISSING);
        due("shelf 1", x.place(1, 0, 0), 1);
        due("shelf 2", x.place(2, 0, 0), MISSING);
        due("it stays empty", x.shelved(2, 0), MISSING);
    }

    @Says("INDEX_OUT_OF_RANGE (checked fourth)")
    private static void promise36IndexOutOfRange() {
        Statute x = small();
        for (int length = 0; length <= 10; length++) {
            x.newShelf(0, 0, length);
            for (int index : new int[] {MIN, -1, length, length + 1, 11, MAX}) {
                due("index " + index + " of " + length, x.place(0, index, 0), INDEX_OUT_OF_RANGE);
            }
            if (length > 0) {
                due("the first index of " + length, x.place(0, 0, 1), 1);
                due("the last index of " + length, x.place(0, length - 1, 2), 1);
                due("what is there", x.shelved(0, length - 1), 2);
            }
        }
    }

    @Says({"WRONG_TYPE if the array is not for provisions of this level",
        "type 0 is for all provisions, and the types 1, 2 and 3 are for provisions of level 1, 2 and 3 only"})
    private static void promise36Types() {
        Statute x = small();
        int[] ofLevel = {1, 3, 4};
        for (int type = 0; type <= 3; type++) {
            x.newShelf(0, type, 1);
            for (int level = 1; level <= 3; level++) {
                boolean fits = type == 0 || type == level;
                due("level " + level + " for type " + type, x.place(0, 0, ofLevel[level - 1]), fits ? 1 : WRONG_TYPE);
            }
        }
    }

    @Says("The elements of an array are identifiers of provisions of the original text")
    private static void promise36LevelInTheOriginalText() {
        Statute x = small();
        x.newShelf(0, 2, 1);
        amend(x, 0, "repeal 1(1);renumber 1");
        due("one that an amendment removes", x.place(0, 0, 2), 1);
        due("what is there", x.shelved(0, 0), 2);
    }

    @Says(FIRST_ERROR)
    private static void promise36FirstErrorCounts() {
        Statute x = small();
        due("shelf before provision", x.place(3, 0, 9), BAD_VALUE);
        due("shelf before all", x.place(-1, -1, -1), BAD_VALUE);
        due("provision before empty", x.place(0, 0, 5), NO_SUCH_PROVISION);
        due("provision before empty and index", x.place(0, 99, -1), NO_SUCH_PROVISION);
        due("empty before index", x.place(0, 99, 0), MISSING);
        due("empty before a negative index", x.place(0, -1, 0), MISSING);
        x.newShelf(0, 3, 1);
        due("provision before index", x.place(0, 1, 5), NO_SUCH_PROVISION);
        due("provision before type", x.place(0, 0, 5), NO_SUCH_PROVISION);
        due("index before type", x.place(0, 1, 0), INDEX_OUT_OF_RANGE);
        due("a negative index before type", x.place(0, -1, 0), INDEX_OUT_OF_RANGE);
    }

    @Says(STATE_STAYS)
    private static void promise36RefusedCallsChangeNothing() {
        refused("a shelf too large", BAD_VALUE, x -> x.place(3, 0, 0));
        refused("a provision that is none", NO_SUCH_PROVISION, x -> x.place(0, 1, 5));
        refused("an empty shelf", MISSING, x -> x.place(2, 0, 0));
        refused("an index too large", INDEX_OUT_OF_RANGE, x -> x.place(0, 2, 0));
        refused("an index too small", INDEX_OUT_OF_RANGE, x -> x.place(0, -1, 0));
        refused("a wrong type", WRONG_TYPE, x -> x.place(1, 0, 0));
    }

    // ---- promise 37: shelved

    @Says({"BAD_VALUE if shelf is out of range (checked first)", "`shelf`: the shelf, 0 to 2"})
    private static void promise37ShelfOutOfRange() {
        Statute x = scene("");
        for (int shelf : NO_SHELVES) {
            due("shelf " + shelf, x.shelved(shelf, 0), BAD_VALUE);
        }
    }

    @Says("MISSING if the shelf is empty (checked second)")
    private static void promise37EmptyShelf() {
        Statute x = scene("");
        due("index 0", x.shelved(2, 0), MISSING);
        due("index 99", x.shelved(2, 99), MISSING);
        due("another shelf", x.shelved(0, 1), 4);
    }

    @Says("INDEX_OUT_OF_RANGE (checked third)")
    private static void promise37IndexOutOfRange() {
        Statute x = small();
        for (int length = 0; length <= 10; length++) {
            x.newShelf(0, 0, 10);
            for (int index = 0; index < 10; index++) {
                x.place(0, index, 3);
            }
            x.newShelf(0, 0, length);
            for (int index : new int[] {MIN, -1, length, length + 1, 11, MAX}) {
                due("index " + index + " of " + length, x.shelved(0, index), INDEX_OUT_OF_RANGE);
            }
        }
    }

    @Says("INDEX_OUT_OF_RANGE (checked third); MISSING if the element is missing.")
    private static void promise37MissingElement() {
        Statute x = small();
        x.newShelf(0, 0, 10);
        for (int index = 0; index < 10; index++) {
            due("index " + index, x.shelved(0, index), MISSING);
            x.place(0, index, index % 5);
            due("index " + index + " then", x.shelved(0, index), index % 5);
        }
        due("the first still", x.shelved(0, 0), 0);
        x.place(0, 0, 4);
        due("the first, replaced", x.shelved(0, 0), 4);
    }

    @Says(FIRST_ERROR)
    private static void promise37FirstErrorCounts() {
        Statute x = small();
        due("shelf before empty and index", x.shelved(3, -1), BAD_VALUE);
        due("empty before index", x.shelved(0, -1), MISSING);
        due("empty before a large index", x.shelved(0, MAX), MISSING);
    }

    @Says(ONLY_ANSWERS)
    private static void promise37OnlyAnswers() {
        onlyAnswers("shelved", x -> x.shelved(0, 1), x -> x.shelved(0, 0), x -> x.shelved(2, 0), x -> x.shelved(0, 2),
            x -> x.shelved(3, 0));
    }

    // ---- promise 38: copyShelf

    @Says({"BAD_VALUE if a shelf is out of range (checked first)", "`shelf`: the shelf with the array, 0 to 2",
        "`to`: the shelf that gets the copy, 0 to 2"})
    private static void promise38ShelfOutOfRange() {
        Statute x = scene("");
        for (int shelf : NO_SHELVES) {
            due("shelf " + shelf, x.copyShelf(shelf, 0), BAD_VALUE);
            due("to " + shelf, x.copyShelf(0, shelf), BAD_VALUE);
            due("both " + shelf, x.copyShelf(shelf, shelf), BAD_VALUE);
        }
        for (int shelf = 0; shelf < 3; shelf++) {
            for (int to = 0; to < 3; to++) {
                Statute y = small();
                y.newShelf(shelf, 0, 5);
                due("from " + shelf + " to " + to, y.copyShelf(shelf, to), 5);
            }
        }
    }

    @Says("MISSING if the first shelf is empty")
    private static void promise38EmptyShelf() {
        Statute x = scene("");
        due("an empty one onto a full one", x.copyShelf(2, 0), MISSING);
        due("the full one stays", x.shelved(0, 1), 4);
        due("an empty one onto itself", x.copyShelf(2, 2), MISSING);
        due("a full one onto an empty one", x.copyShelf(0, 2), 2);
        due("what is there", x.shelved(2, 1), 4);
    }

    @Says(FIRST_ERROR)
    private static void promise38FirstErrorCounts() {
        Statute x = scene("");
        due("to 3 before empty", x.copyShelf(2, 3), BAD_VALUE);
        due("to -1 before empty", x.copyShelf(2, -1), BAD_VALUE);
    }

    @Says("Returns the length of the array")
    private static void promise38ZeroToTen() {
        Statute x = small();
        for (int length = 0; length <= 10; length++) {
            x.newShelf(0, 0, length);
            x.newShelf(1, 0, 10 - length);
            due("length " + length, x.copyShelf(0, 1), length);
            due("index " + length, x.shelved(1, length), INDEX_OUT_OF_RANGE);
            due("index before it", x.shelved(1, length - 1), length == 0 ? INDEX_OUT_OF_RANGE : MISSING);
        }
    }

    @Says("Puts a copy of the array on one shelf on another shelf.")
    private static void promise38AllElementsAndTheType() {
        Statute x = small();
        x.newShelf(0, 2, 10);
        x.place(0, 0, 2);
        x.place(0, 9, 3);
        x.newShelf(2, 0, 10);
        x.place(2, 5, 0);
        due("the length", x.copyShelf(0, 2), 10);
        due("the first", x.shelved(2, 0), 2);
        due("a missing one over an element", x.shelved(2, 5), MISSING);
        due("the last", x.shelved(2, 9), 3);
        due("the type", x.place(2, 5, 0), WRONG_TYPE);
    }

    @Says("Later changes of one of the two arrays do not change the other one.")
    private static void promise38TheCopyIsApart() {
        Statute x = small();
        x.newShelf(0, 0, 3);
        x.place(0, 0, 1);
        x.copyShelf(0, 1);
        x.place(0, 0, 2);
        x.place(0, 1, 2);
        due("the copy stays", x.shelved(1, 0), 1);
        due("its missing element too", x.shelved(1, 1), MISSING);
        x.place(1, 0, 3);
        x.place(1, 2, 3);
        due("the first one stays", x.shelved(0, 0), 2);
        due("its missing element too", x.shelved(0, 2), MISSING);
        x.newShelf(0, 1, 1);
        due("the copy stays after a new array", x.shelved(1, 0), 3);
        due("its type too", x.place(1, 1, 4), 1);
    }

    @Says("it may be the same one")
    private static void promise38OntoItself() {
        Statute x = scene("");
        due("onto itself", x.copyShelf(0, 0), 2);
        due("its element", x.shelved(0, 1), 4);
        due("its missing element", x.shelved(0, 0), MISSING);
        due("it can still be changed", x.place(0, 0, 1), 1);
        due("and is", x.shelved(0, 0), 1);
    }

    @Says(STATE_STAYS)
    private static void promise38RefusedCallsChangeNothing() {
        refused("an empty shelf", MISSING, x -> x.copyShelf(2, 0));
        refused("a shelf too large", BAD_VALUE, x -> x.copyShelf(3, 0));
        refused("to a shelf too large", BAD_VALUE, x -> x.copyShelf(0, 3));
        refused("to a shelf too small", BAD_VALUE, x -> x.copyShelf(0, -1));
    }

    // ---- promise 39: saveSnapshot

    @Says("Returns the number of provisions of the original text.")
    private static void promise39WhatItAnswers() {
        due("of an empty text", new Statute().saveSnapshot(), 0);
        due("of one", sections(1).saveSnapshot(), 1);
        due("of thirty, those of amendments not counted", thirtyAnd(30).saveSnapshot(), 30);
    }

    @Says("An earlier snapshot is replaced.")
    private static void promise39EarlierOneIsReplaced() {
        Statute x = scene("");
        x.saveSnapshot();
        x.clear();
        due("restored", x.restoreSnapshot(), 5);
        due("its text", whole(x, -1), SMALL);
        due("its amendments", x.amendmentCount(), 2);
        x.clear();
        due("an empty one in its place", x.saveSnapshot(), 0);
        x.addProvision(-1, 1);
        due("restored", x.restoreSnapshot(), 0);
        due("the text", x.originalCount(), 0);
        due("the amendments", x.amendmentCount(), 0);
    }

    @Says("Shelves and the input are not part of a snapshot.")
    private static void promise39ShelvesAndInputStay() {
        Statute x = scene("1(1)");
        x.saveSnapshot();
        due("shelf 0", x.shelved(0, 1), 4);
        due("shelf 1", x.shelved(1, 0), 2);
        due("shelf 2", x.shelved(2, 0), MISSING);
        due("the input", x.find(-1), 1);
        type(x, "2");
        x.restoreSnapshot();
        due("the new input stays", x.find(-1), 4);
    }

    @Says("Saves the original text and the amendments.")
    private static void promise39LaterChangesAreNotSaved() {
        Statute x = small();
        x.addReference(0, 4);
        amend(x, 5, "replace 1 5;insert 2 6");
        x.saveSnapshot();
        x.setText(0, 99);
        x.addReference(0, 1);
        x.addReference(1, 0);
        x.insertProvision(0, 98);
        x.setCommencement(0, 1);
        amend(x, 0, "repeal 1");
        x.restoreSnapshot();
        due("the text", whole(x, -1), SMALL);
        due("day 4", x.textAt(4, 0), 10);
        due("day 5", whole(x, 5), "1:5 1(1):12 1(1)(1):14 1(2):13 2:11 2A:6");
        due("references of 1", x.referenceCountAt(-1, 0), 1);
        due("where it leads", x.referenceAt(-1, 0, 0), 2);
        due("references of 2", x.referenceCountAt(-1, 4), 0);
        due("amendments", x.amendmentCount(), 1);
    }

    // ---- promise 40: restoreSnapshot

    @Says("NONE if no snapshot was saved.")
    private static void promise40NoSnapshot() {
        due("of a new object", new Statute().restoreSnapshot(), NONE);
        Statute x = small();
        x.newShelf(0, 0, 1);
        type(x, "2");
        due("none saved", x.restoreSnapshot(), NONE);
        due("the text stays", x.originalCount(), 5);
        due("the shelf stays", x.shelved(0, 1), INDEX_OUT_OF_RANGE);
        due("the input stays", x.find(-1), 4);
        x.clear();
        due("still none", x.restoreSnapshot(), NONE);
    }

    @Says("NONE if no snapshot was saved.")
    private static void promise40SnapshotOfNothing() {
        Statute x = new Statute();
        x.saveSnapshot();
        due("of an empty text", x.restoreSnapshot(), 0);
        x.addProvision(-1, 1);
        amend(x, 0, "repeal 1");
        due("again", x.restoreSnapshot(), 0);
        due("the text", x.originalCount(), 0);
        due("the amendments", x.amendmentCount(), 0);
    }

    @Says("Restores the original text and the amendments from the snapshot, and empties all shelves.")
    private static void promise40ShelvesAreEmptied() {
        Statute x = scene("");
        x.newShelf(2, 0, 10);
        due("restored", x.restoreSnapshot(), 1);
        for (int shelf = 0; shelf < 3; shelf++) {
            due("shelved", x.shelved(shelf, 0), MISSING);
            due("shelved beyond", x.shelved(shelf, 10), MISSING);
        }
    }

    @Says("Restores the original text and the amendments from the snapshot, and empties all shelves.")
    private static void promise40AllThatIsFull() {
        Statute x = fullScene("");
        x.saveSnapshot();
        x.clear();
        x.addProvision(-1, 9);
        amend(x, 9, "replace 1 9");
        due("restored", x.restoreSnapshot(), 30);
        due("the amendments", x.amendmentCount(), 8);
        due("a provision too many", x.addProvision(-1, 1), FULL);
        due("a reference too many", x.addReference(0, 0), FULL);
        due("an amendment too many", amend(x, 0, "repeal 1"), FULL);
        due("conflicts", x.conflictCount(7), 7);
        due("the last amendment's day", x.setCommencement(7, 0), 7);
        for (int reference = 0; reference < 4; reference++) {
            due("reference " + reference, x.referenceAt(-1, 0, reference), reference);
        }
        due("text 0", x.textAt(-1, 0), 0);
    }

    @Says("Restores the original text and the amendments from the snapshot, and empties all shelves.")
    private static void promise40OverOthersInTheirPlaces() {
        Statute x = small();
        x.addReference(0, 4);
        x.addReference(0, 3);
        x.addReference(4, 1);
        amend(x, 5, "move 1(1) 1(2);replace 2 6");
        amend(x, 6, "insert 2 7");
        x.saveSnapshot();
        x.clear();
        x.addProvision(-1, 77);
        x.addProvision(-1, 78);
        for (int reference = 0; reference < 4; reference++) {
            x.addReference(0, 1);
        }
        amend(x, 2, "move 2 1;replace 1 3;repeal 1");
        amend(x, 3, "renumber 2;renumber 2");
        due("restored", x.restoreSnapshot(), 5);
        due("day 4", whole(x, 4), SMALL);
        due("day 5", whole(x, 5), "1:10 1(2):13 1(2A):12 1(2A)(1):14 2:6");
        due("day 6", whole(x, 6), "1:10 1(2):13 1(2A):12 1(2A)(1):14 2:6 2A:7");
        due("instructions of the first", x.instructionCount(0), 2);
        due("instructions of the second", x.instructionCount(1), 1);
        due("conflicts", x.conflictCount(9999), 0);
        due("references of 1", x.referenceCountAt(-1, 0), 2);
        due("the first", x.referenceAt(-1, 0, 0), 2);
        due("the second", x.referenceAt(-1, 0, 1), 3);
        due("that of 1(1)(1)", x.referenceAt(-1, 2, 0), 4);
    }

    @Says("The snapshot is kept.")
    private static void promise40SnapshotIsKept() {
        Statute x = small();
        x.addReference(0, 4);
        amend(x, 5, "replace 1 5");
        x.saveSnapshot();
        for (int times = 0; times < 3; times++) {
            due("restored", x.restoreSnapshot(), 5);
            due("the text", whole(x, -1), SMALL);
            due("day 5", x.textAt(5, 0), 5);
            due("references", x.referenceCountAt(-1, 0), 1);
            x.setText(0, 99);
            x.addReference(0, 1);
            x.addProvision(0, 7);
            x.setCommencement(0, 1);
            x.removeLastAmendment();
            amend(x, 1, "repeal 1;repeal 2");
            if (times == 1) {
                x.clear();
            }
        }
    }

    @Says("Returns the number of provisions of the original text")
    private static void promise40IdentifiersGoOn() {
        Statute x = small();
        x.saveSnapshot();
        x.addProvision(-1, 1);
        x.addReference(5, 0);
        due("restored", x.restoreSnapshot(), 5);
        due("the next identifier", x.addProvision(-1, 2), 5);
        due("its references", x.referenceCountAt(-1, 5), 0);
        due("the one after it is none", x.setText(6, 1), NO_SUCH_PROVISION);
    }

    @Says(STATE_STAYS)
    private static void promise40RefusedCallsChangeNothing() {
        Maker maker = () -> {
            Statute x = small();
            x.addReference(0, 4);
            amend(x, 5, "insert 1 20;repeal 1(2)");
            x.newShelf(0, 0, 2);
            x.place(0, 1, 4);
            type(x, "1(1)");
            return x;
        };
        changesNothing("a text without a snapshot", maker, "none saved", NONE, x -> x.restoreSnapshot());
    }
}
