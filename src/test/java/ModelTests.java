import java.util.ArrayList;
import java.util.Arrays;
import java.util.Comparator;
import java.util.HashMap;
import java.util.List;
import java.util.Map;
import java.util.Random;
import java.util.function.ToIntFunction;
import java.util.regex.Matcher;
import java.util.regex.Pattern;

/**
 * Long runs of calls, made from fixed seeds, on the class and on a model that is written straight from
 * the document in another way: a tree of objects, suffixes found by trying all of them, the syntax as
 * a regular expression, and the figures by the machine's own floating point. Every answer must agree.
 */
public final class ModelTests {
    private static final int RUNS = 1500;
    /** Nothing is promised after so many calls on an object. */
    private static final int PROMISED_CALLS = 512;
    /** A run ends here, so that what it has begun ends within the promised calls. */
    private static final int PLAYED_CALLS = 490;
    /** Room for the calls that follow the last character of an input. */
    private static final int TYPED_CALLS = 500;
    private static final int MAX_PRINTED = 20;

    private static int wrong = 0;
    private static final int[] seenReasons = new int[6];
    private static final int[] seenKinds = new int[6];
    private static final int[] seenRefusals = new int[15];
    private static int seenFullVersions = 0;

    public static void main(String[] args) {
        for (int seed = 1; seed <= RUNS && wrong == 0; seed++) {
            new Run(seed).play();
        }
        requireSeen("reason", seenReasons, 1, 5);
        requireSeen("applied kind", seenKinds, 0, 5);
        for (int code = 1; code <= 14; code++) {
            if (seenRefusals[code] == 0) {
                report("no run ever answered " + -code);
            }
        }
        if (seenFullVersions == 0) {
            report("no run ever filled a version");
        }
        System.out.println(wrong == 0 ? "all answers are the model's" : wrong + " answers are not the model's");
        if (wrong != 0) {
            System.exit(1);
        }
    }

    private static void requireSeen(String what, int[] counts, int from, int to) {
        for (int at = from; at <= to; at++) {
            if (counts[at] == 0) {
                report("no run ever met " + what + " " + at);
            }
        }
    }

    private static void report(String text) {
        wrong++;
        if (wrong <= MAX_PRINTED) {
            System.out.println(text);
        }
    }

    // ---- one run of calls

    private static final class Run {
        private final int seed;
        private final Random random;
        private StatuteConsolidator real = new StatuteConsolidator();
        private final List<ToIntFunction<StatuteConsolidator>> changes = new ArrayList<>();
        private final Model model = new Model();
        private int calls = 0;
        /** How eager this run is to insert, so that some runs fill the original text and the versions. */
        private final int style;

        Run(int seed) {
            this.seed = seed;
            this.random = new Random(seed);
            this.style = seed % 5;
        }

        private int change(ToIntFunction<StatuteConsolidator> call) {
            StatuteConsolidator object = asked();
            changes.add(call);
            return call.applyAsInt(object);
        }

        /** The object for the next call: when its calls are used up, another one with the same changes behind it. */
        private StatuteConsolidator asked() {
            if (calls == PROMISED_CALLS) {
                real = new StatuteConsolidator();
                for (ToIntFunction<StatuteConsolidator> change : changes) {
                    change.applyAsInt(real);
                }
                calls = changes.size();
            }
            calls++;
            return real;
        }

        private void due(String call, long got, long want) {
            if (want < 0 && want >= -14) {
                seenRefusals[(int) -want]++;
            }
            if (got != want) {
                report("seed " + seed + ", call " + calls + ": " + call + " answered " + got
                    + ", the model says " + want);
            }
        }

        void play() {
            build();
            while (calls < PLAYED_CALLS && wrong == 0) {
                int dice = random.nextInt(100);
                if (dice < 8) {
                    original();
                } else if (dice < 22) {
                    amend();
                } else if (dice < 26) {
                    manageAmendments();
                } else if (dice < 36) {
                    shelf();
                } else if (dice < 38) {
                    snapshot();
                } else if (dice < 42) {
                    look();
                } else {
                    ask();
                }
            }
            if (changes.size() >= PROMISED_CALLS) {
                report("seed " + seed + ": the run made " + changes.size() + " changes and leaves no call to compare");
                return;
            }
            compareAll();
        }

        private int below(int bound) {
            return random.nextInt(bound);
        }

        private void build() {
            int size = style == 0 ? 50 : below(18);
            for (int step = 0; step < size; step++) {
                original();
            }
            for (int step = 0; style == 0 && step < 3; step++) {
                amend();
            }
        }

        private int someProvision() {
            int count = model.provisions();
            return below(12) == 0 ? below(40) - 5 : count == 0 ? -1 : below(count);
        }

        private int someText() {
            int dice = below(20);
            return dice == 0 ? -1 : dice == 1 ? 10000 : dice == 2 ? 9999 : dice == 3 ? 0 : below(5);
        }

        private int someDay() {
            int dice = below(30);
            return dice == 0 ? -2 : dice == 1 ? 10000 : dice == 2 ? 9999 : dice == 3 ? -1 : below(7);
        }

        private int somePosition(int day) {
            int count = day < -1 || day > 9999 ? 3 : model.version(day).list().size();
            return below(15) == 0 ? below(80) - 10 : count == 0 ? 0 : below(count);
        }

        private void original() {
            int dice = below(20);
            if (dice < 9) {
                int parent = below(3) == 0 ? -1 : someProvision();
                int text = someText();
                due("addProvision(" + parent + ", " + text + ")",
                    change(x -> x.addProvision(parent, text)), model.addProvision(parent, text));
            } else if (dice < 15) {
                int provision = someProvision();
                int text = someText();
                due("insertProvision(" + provision + ", " + text + ")",
                    change(x -> x.insertProvision(provision, text)), model.insertProvision(provision, text));
            } else if (dice < 16) {
                int provision = someProvision();
                int text = someText();
                due("setText(" + provision + ", " + text + ")",
                    change(x -> x.setText(provision, text)), model.setText(provision, text));
            } else {
                int provision = below(3) == 0 ? 0 : someProvision();
                int target = someProvision();
                due("addReference(" + provision + ", " + target + ")",
                    change(x -> x.addReference(provision, target)), model.addReference(provision, target));
            }
            due("originalCount()", asked().originalCount(), model.provisions());
        }

        private void type(String text) {
            for (int at = 0; at < text.length() && calls < TYPED_CALLS; at++) {
                int character = text.charAt(at);
                due("appendCharacter(" + character + ")",
                    change(x -> x.appendCharacter(character)), model.appendCharacter(character));
            }
        }

        private void spoilInput() {
            int dice = below(12);
            if (dice == 0) {
                due("clearInput()", change(x -> x.clearInput()), model.clearInput());
            } else if (dice == 1) {
                int character = below(2) == 0 ? 31 : 127;
                due("appendCharacter(" + character + ")",
                    change(x -> x.appendCharacter(character)), model.appendCharacter(character));
            }
        }

        private String somePath(Tree tree) {
            List<Node> nodes = tree.list();
            if (nodes.isEmpty() || below(12) == 0) {
                return (1 + below(12)) + (below(2) == 0 ? "" : "A") + (below(2) == 0 ? "" : "(" + (1 + below(4)) + ")");
            }
            return nodes.get(below(nodes.size())).path();
        }

        private String someInstruction(Tree tree) {
            String path = somePath(tree);
            int dice = below(style == 0 ? 100 : 13);
            String number = below(6) == 0 ? "0" + below(1000) : "" + below(6);
            if (dice < 3) {
                return "insert " + path + " " + number;
            } else if (dice < 5 || dice >= 13) {
                return "add " + (dice >= 13 ? "1" : path) + " " + number;
            } else if (dice < 6) {
                return "replace " + path + " " + number;
            } else if (dice < 8) {
                return "repeal " + path;
            } else if (dice < 11) {
                return "move " + path + " " + levelMate(tree, path);
            }
            return "renumber " + path;
        }

        private String levelMate(Tree tree, String path) {
            String mate = somePath(tree);
            for (int tries = 0; tries < 8 && brackets(mate) != brackets(path); tries++) {
                mate = somePath(tree);
            }
            return mate;
        }

        private int brackets(String path) {
            return path.replaceAll("[^(]", "").length();
        }

        private String damage(String text) {
            if (text.isEmpty()) {
                return text;
            }
            int at = below(text.length());
            String signs = "019AZ();  aeprm";
            char sign = signs.charAt(below(signs.length()));
            int dice = below(3);
            if (dice == 0) {
                return text.substring(0, at);
            } else if (dice == 1) {
                return text.substring(0, at) + sign + text.substring(at);
            }
            return text.substring(0, at) + sign + text.substring(at + 1);
        }

        private void amend() {
            int day = someDay();
            Tree tree = model.version(Math.max(-1, Math.min(day, 9999)));
            StringBuilder text = new StringBuilder();
            int instructions = style == 0 ? 15 : 1 + below(4);
            for (int at = 0; at < instructions; at++) {
                String next = (at > 0 ? ";" : "") + someInstruction(tree);
                if (text.length() + next.length() <= 120 || below(30) == 0) {
                    text.append(next);
                }
            }
            type(below(5) == 0 ? damage(text.toString()) : text.toString());
            spoilInput();
            due("addAmendment(" + day + ") of " + model.input, change(x -> x.addAmendment(day)), model.addAmendment(day));
            due("amendmentCount()", asked().amendmentCount(), model.amendments.size());
        }

        private void manageAmendments() {
            int amendment = below(10) - 1;
            int dice = below(6);
            if (dice == 0) {
                due("removeLastAmendment()", change(x -> x.removeLastAmendment()), model.removeLastAmendment());
            } else if (dice < 4) {
                int day = someDay();
                due("setCommencement(" + amendment + ", " + day + ")",
                    change(x -> x.setCommencement(amendment, day)), model.setCommencement(amendment, day));
            } else {
                due("instructionCount(" + amendment + ")",
                    asked().instructionCount(amendment), model.instructionCount(amendment));
            }
        }

        private void shelf() {
            int shelf = below(20) == 0 ? (below(2) == 0 ? -1 : 3) : below(3);
            int index = below(14) - 2;
            int dice = below(10);
            if (dice < 2) {
                int type = below(15) == 0 ? (below(2) == 0 ? -1 : 4) : below(4);
                due("newShelf(" + shelf + ", " + type + ", " + index + ")",
                    change(x -> x.newShelf(shelf, type, index)), model.newShelf(shelf, type, index));
            } else if (dice < 6) {
                int provision = someProvision();
                due("place(" + shelf + ", " + index + ", " + provision + ")",
                    change(x -> x.place(shelf, index, provision)), model.place(shelf, index, provision));
            } else if (dice < 9) {
                due("shelved(" + shelf + ", " + index + ")", asked().shelved(shelf, index), model.shelved(shelf, index));
            } else {
                int to = below(20) == 0 ? 3 : below(3);
                due("copyShelf(" + shelf + ", " + to + ")", change(x -> x.copyShelf(shelf, to)), model.copyShelf(shelf, to));
            }
        }

        private void snapshot() {
            int dice = below(10);
            if (dice < 4) {
                due("saveSnapshot()", change(x -> x.saveSnapshot()), model.saveSnapshot());
            } else if (dice < 8) {
                due("restoreSnapshot()", change(x -> x.restoreSnapshot()), model.restoreSnapshot());
            } else if (dice == 8 && below(4) == 0) {
                due("clear()", change(x -> x.clear()), model.clear());
            }
        }

        private void look() {
            int day = someDay();
            String path = somePath(model.version(Math.max(-1, Math.min(day, 9999))));
            type(below(3) == 0 ? damage(path) : path);
            spoilInput();
            due("find(" + day + ") of " + model.input, change(x -> x.find(day)), model.find(day));
        }

        private void ask() {
            int day = someDay();
            int index = somePosition(day);
            int dice = below(20);
            if (dice < 8) {
                askPosition(day, index);
            } else if (dice < 10) {
                int reference = below(6) - 1;
                due("referenceAt(" + day + ", " + index + ", " + reference + ")",
                    asked().referenceAt(day, index, reference), model.referenceAt(day, index, reference));
            } else if (dice < 12) {
                int position = below(16) - 1;
                due("pathCharacterAt(" + day + ", " + index + ", " + position + ")",
                    asked().pathCharacterAt(day, index, position), model.pathCharacterAt(day, index, position));
            } else if (dice < 14) {
                int other = someDay();
                due("firstDifference(" + day + ", " + other + ")",
                    asked().firstDifference(day, other), model.firstDifference(day, other));
            } else if (dice < 16) {
                int amendment = below(9) - 1;
                int other = below(5) == 0 ? amendment : below(8);
                due("doCommute(" + amendment + ", " + other + ")",
                    asked().doCommute(amendment, other), model.doCommute(amendment, other));
            } else {
                askDay(day);
            }
        }

        private void askPosition(int day, int index) {
            String arguments = "(" + day + ", " + index + ")";
            switch (below(7)) {
                case 0: due("levelAt" + arguments, asked().levelAt(day, index), model.levelAt(day, index)); break;
                case 1: due("textAt" + arguments, asked().textAt(day, index), model.textAt(day, index)); break;
                case 2: due("isRepealedAt" + arguments, asked().isRepealedAt(day, index), model.isRepealedAt(day, index)); break;
                case 3: due("pathLengthAt" + arguments, asked().pathLengthAt(day, index), model.pathLengthAt(day, index)); break;
                case 4: due("originAt" + arguments, asked().originAt(day, index), model.originAt(day, index)); break;
                case 5: due("creatorAt" + arguments, asked().creatorAt(day, index), model.creatorAt(day, index)); break;
                default: due("referenceCountAt" + arguments, asked().referenceCountAt(day, index), model.referenceCountAt(day, index));
            }
        }

        private void askDay(int day) {
            String argument = "(" + day + ")";
            due("provisionCount" + argument, asked().provisionCount(day), model.provisionCount(day));
            due("danglingCount" + argument, asked().danglingCount(day), model.danglingCount(day));
            due("averageLevel" + argument, asked().averageLevel(day), model.averageLevel(day));
            due("repealedShare" + argument, asked().repealedShare(day), model.repealedShare(day));
            int conflicts = model.conflictCount(day);
            due("conflictCount" + argument, asked().conflictCount(day), conflicts);
            int conflict = below(Math.max(conflicts, 0) + 2) - 1;
            arguments(day, conflict);
        }

        private void arguments(int day, int conflict) {
            String arguments = "(" + day + ", " + conflict + ")";
            due("conflictAmendment" + arguments, asked().conflictAmendment(day, conflict), model.conflictPart(day, conflict, 0));
            due("conflictInstruction" + arguments, asked().conflictInstruction(day, conflict), model.conflictPart(day, conflict, 1));
            due("conflictReason" + arguments, asked().conflictReason(day, conflict), model.conflictPart(day, conflict, 2));
        }

        /** At the end of a run every version is compared whole. */
        private void compareAll() {
            for (int day = -1; day < 8 && wrong == 0; day++) {
                compareVersion(day);
            }
            compareVersion(9999);
            for (int one = 0; one < 8; one++) {
                for (int two = 0; two < 8; two++) {
                    due("doCommute(" + one + ", " + two + ")", asked().doCommute(one, two), model.doCommute(one, two));
                }
            }
        }

        private void compareVersion(int day) {
            Tree tree = model.version(day);
            int count = tree.list().size();
            if (count == 60) {
                seenFullVersions++;
            }
            askDay(day);
            for (int index = -1; index <= count; index++) {
                comparePosition(day, index);
            }
            for (int conflict = 0; conflict < tree.conflicts.size(); conflict++) {
                seenReasons[tree.conflicts.get(conflict)[2]]++;
                arguments(day, conflict);
            }
        }

        private void comparePosition(int day, int index) {
            String at = " at " + day + ", " + index;
            due("level" + at, asked().levelAt(day, index), model.levelAt(day, index));
            due("text" + at, asked().textAt(day, index), model.textAt(day, index));
            due("repealed" + at, asked().isRepealedAt(day, index), model.isRepealedAt(day, index));
            due("origin" + at, asked().originAt(day, index), model.originAt(day, index));
            due("creator" + at, asked().creatorAt(day, index), model.creatorAt(day, index));
            int length = model.pathLengthAt(day, index);
            due("length" + at, asked().pathLengthAt(day, index), length);
            for (int position = -1; position <= Math.max(length, 0); position++) {
                due("character " + position + at,
                    asked().pathCharacterAt(day, index, position), model.pathCharacterAt(day, index, position));
            }
            int references = model.referenceCountAt(day, index);
            due("references" + at, asked().referenceCountAt(day, index), references);
            for (int reference = -1; reference <= Math.max(references, 0); reference++) {
                due("reference " + reference + at,
                    asked().referenceAt(day, index, reference), model.referenceAt(day, index, reference));
            }
        }
    }

    // ---- the model

    private static final class Node {
        Node parent;
        final List<Node> children = new ArrayList<>();
        int number;
        String suffix = "";
        int text;
        boolean repealed;
        int origin = -9;
        int creator = -9;

        int level() {
            return parent == null ? 0 : parent.level() + 1;
        }

        String path() {
            String label = number + suffix;
            return level() == 1 ? label : parent.path() + "(" + label + ")";
        }

        Node copy(Node newParent) {
            Node copy = new Node();
            copy.parent = newParent;
            copy.number = number;
            copy.suffix = suffix;
            copy.text = text;
            copy.repealed = repealed;
            copy.origin = origin;
            copy.creator = creator;
            for (Node child : children) {
                copy.children.add(child.copy(copy));
            }
            return copy;
        }

        void collect(List<Node> into) {
            for (Node child : children) {
                into.add(child);
                child.collect(into);
            }
        }

        void repealAll() {
            repealed = true;
            for (Node child : children) {
                child.repealAll();
            }
        }

        boolean labelLast(Node fresh) {
            int greatest = 0;
            for (Node child : children) {
                greatest = Math.max(greatest, child.number);
            }
            fresh.number = greatest + 1;
            fresh.suffix = "";
            return greatest < 99;
        }
    }

    private static final class Tree {
        final Node root;
        final List<int[]> conflicts = new ArrayList<>();

        Tree(Node root) {
            this.root = root;
        }

        List<Node> list() {
            List<Node> nodes = new ArrayList<>();
            root.collect(nodes);
            return nodes;
        }

        Node byPath(String path) {
            for (Node node : list()) {
                if (node.path().equals(path)) {
                    return node;
                }
            }
            return null;
        }

        Node byOrigin(int origin) {
            for (Node node : list()) {
                if (node.origin == origin) {
                    return node;
                }
            }
            return null;
        }

        boolean placeAfter(Node fresh, Node sibling) {
            List<Node> siblings = sibling.parent.children;
            int at = siblings.indexOf(sibling) + 1;
            String before = null;
            if (at < siblings.size() && siblings.get(at).number == sibling.number) {
                before = siblings.get(at).suffix;
            }
            String suffix = suffixBetween(sibling.suffix, before);
            if (suffix == null) {
                return false;
            }
            fresh.number = sibling.number;
            fresh.suffix = suffix;
            fresh.parent = sibling.parent;
            siblings.add(at, fresh);
            return true;
        }

        private static String suffixBetween(String after, String before) {
            for (String suffix : ALL_SUFFIXES) {
                if (suffix.compareTo(after) > 0 && (before == null || suffix.compareTo(before) < 0)) {
                    return suffix;
                }
            }
            return null;
        }

        void apply(int amendment, List<String> instructions) {
            for (int at = 0; at < instructions.size(); at++) {
                int reason = apply(amendment, instructions.get(at).split(" "));
                if (reason != 0) {
                    conflicts.add(new int[] {amendment, at, reason});
                }
            }
        }

        private int apply(int amendment, String[] parts) {
            int kind = KINDS.indexOf(parts[0]);
            boolean move = parts[0].equals("move");
            Node p = byPath(parts[1]);
            Node q = move ? byPath(parts[2]) : p;
            if (p == null || q == null) {
                return 1;
            }
            if (p.repealed || q.repealed) {
                return 2;
            }
            if (parts[0].equals("add") && p.level() == 3 || move && (p.level() != q.level() || p == q)) {
                return 3;
            }
            if ((parts[0].equals("insert") || parts[0].equals("add")) && list().size() == 60) {
                return 4;
            }
            boolean applied = change(amendment, parts, p, q);
            if (applied) {
                seenKinds[kind]++;
            }
            return applied ? 0 : 5;
        }

        private boolean change(int amendment, String[] parts, Node p, Node q) {
            switch (parts[0]) {
                case "insert":
                    return placeAfter(fresh(amendment, parts[2]), p);
                case "add":
                    Node fresh = fresh(amendment, parts[2]);
                    fresh.parent = p;
                    return p.labelLast(fresh) && p.children.add(fresh);
                case "replace":
                    p.text = Integer.parseInt(parts[2]);
                    return true;
                case "repeal":
                    p.repealAll();
                    return true;
                case "move":
                    return move(p, q);
                default:
                    p.children.removeIf(child -> child.repealed);
                    for (int at = 0; at < p.children.size(); at++) {
                        p.children.get(at).number = at + 1;
                        p.children.get(at).suffix = "";
                    }
                    return true;
            }
        }

        private static Node fresh(int amendment, String text) {
            Node fresh = new Node();
            fresh.text = Integer.parseInt(text);
            fresh.creator = amendment;
            return fresh;
        }

        private boolean move(Node p, Node q) {
            Node oldParent = p.parent;
            int oldPlace = oldParent.children.indexOf(p);
            oldParent.children.remove(oldPlace);
            if (placeAfter(p, q)) {
                return true;
            }
            oldParent.children.add(oldPlace, p);
            return false;
        }
    }

    private static final List<String> KINDS = Arrays.asList("insert", "add", "replace", "repeal", "move", "renumber");
    private static final List<String> ALL_SUFFIXES = allSuffixes();

    private static List<String> allSuffixes() {
        List<String> all = new ArrayList<>();
        List<String> longest = Arrays.asList("");
        for (int length = 1; length <= 3; length++) {
            List<String> longer = new ArrayList<>();
            for (String begin : longest) {
                for (char letter = 'A'; letter <= 'Z'; letter++) {
                    longer.add(begin + letter);
                }
            }
            all.addAll(longer);
            longest = longer;
        }
        return all;
    }

    private static final String LABEL = "[1-9][0-9]?[A-Z]{0,3}";
    private static final String PATH = LABEL + "(\\(" + LABEL + "\\)){0,2}";
    private static final String INSTRUCTION = "((insert|add|replace) " + PATH + " [0-9]{1,4}"
        + "|(repeal|renumber) " + PATH + "|move " + PATH + " " + PATH + ")";
    private static final Pattern ONE_PATH = Pattern.compile(PATH);
    private static final Pattern AMENDMENT = Pattern.compile(INSTRUCTION + "(;" + INSTRUCTION + ")*");

    /** The error position, or -1 if the text is valid: hitEnd tells that a longer text might match. */
    private static int errorPosition(Pattern pattern, String text) {
        if (pattern.matcher(text).matches()) {
            return -1;
        }
        for (int k = 0; k < text.length(); k++) {
            Matcher matcher = pattern.matcher(text.substring(0, k + 1));
            if (!matcher.matches() && !matcher.hitEnd()) {
                return k;
            }
        }
        return text.length();
    }

    private static final class Amendment {
        int day;
        final List<String> instructions;

        Amendment(int day, List<String> instructions) {
            this.day = day;
            this.instructions = instructions;
        }
    }

    private static final class Shelf {
        final int type;
        final Integer[] elements;

        Shelf(int type, Integer[] elements) {
            this.type = type;
            this.elements = elements;
        }
    }

    private static final class Model {
        Node original = new Node();
        List<List<Integer>> references = new ArrayList<>();
        List<Amendment> amendments = new ArrayList<>();
        final StringBuilder input = new StringBuilder();
        final Shelf[] shelves = new Shelf[3];
        Model saved = null;
        /** The versions since the last change: computing them anew for each call takes minutes. */
        final Map<Integer, Tree> versions = new HashMap<>();

        int provisions() {
            return references.size();
        }

        private Node provision(int id) {
            return id < 0 ? null : new Tree(original).byOrigin(id);
        }

        private static boolean badText(int text) {
            return text < 0 || text > 9999;
        }

        int addProvision(int parent, int text) {
            versions.clear();
            Node above = parent == -1 ? original : provision(parent);
            if (above == null) {
                return -1;
            }
            if (badText(text)) {
                return -5;
            }
            if (above.level() == 3) {
                return -8;
            }
            if (provisions() == 30) {
                return -6;
            }
            Node fresh = freshOriginal(text);
            fresh.parent = above;
            if (!above.labelLast(fresh)) {
                return -7;
            }
            above.children.add(fresh);
            references.add(new ArrayList<>());
            return fresh.origin;
        }

        int insertProvision(int provision, int text) {
            versions.clear();
            Node sibling = provision(provision);
            if (sibling == null) {
                return -1;
            }
            if (badText(text)) {
                return -5;
            }
            if (provisions() == 30) {
                return -6;
            }
            Node fresh = freshOriginal(text);
            if (!new Tree(original).placeAfter(fresh, sibling)) {
                return -7;
            }
            references.add(new ArrayList<>());
            return fresh.origin;
        }

        private Node freshOriginal(int text) {
            Node fresh = new Node();
            fresh.text = text;
            fresh.origin = provisions();
            return fresh;
        }

        int setText(int provision, int text) {
            versions.clear();
            Node node = provision(provision);
            if (node == null) {
                return -1;
            }
            if (badText(text)) {
                return -5;
            }
            int previous = node.text;
            node.text = text;
            return previous;
        }

        int addReference(int provision, int target) {
            versions.clear();
            if (provision(provision) == null || provision(target) == null) {
                return -1;
            }
            if (references.get(provision).size() == 4) {
                return -6;
            }
            references.get(provision).add(target);
            return references.get(provision).size();
        }

        int clear() {
            versions.clear();
            int count = provisions();
            original = new Node();
            references = new ArrayList<>();
            amendments = new ArrayList<>();
            Arrays.fill(shelves, null);
            return count;
        }

        int appendCharacter(int character) {
            if (character < 32 || character > 126) {
                return -5;
            }
            if (input.length() == 120) {
                return -6;
            }
            input.append((char) character);
            return input.length();
        }

        int clearInput() {
            int length = input.length();
            input.setLength(0);
            return length;
        }

        int addAmendment(int day) {
            versions.clear();
            String text = input.toString();
            input.setLength(0);
            if (day < 0 || day > 9999) {
                return -4;
            }
            if (amendments.size() == 8) {
                return -6;
            }
            int error = errorPosition(AMENDMENT, text);
            if (error >= 0) {
                return -1000 - error;
            }
            amendments.add(new Amendment(day, Arrays.asList(text.split(";"))));
            return amendments.size() - 1;
        }

        private boolean noAmendment(int amendment) {
            return amendment < 0 || amendment >= amendments.size();
        }

        int instructionCount(int amendment) {
            return noAmendment(amendment) ? -3 : amendments.get(amendment).instructions.size();
        }

        int setCommencement(int amendment, int day) {
            versions.clear();
            if (noAmendment(amendment)) {
                return -3;
            }
            if (day < 0 || day > 9999) {
                return -4;
            }
            int previous = amendments.get(amendment).day;
            amendments.get(amendment).day = day;
            return previous;
        }

        int removeLastAmendment() {
            versions.clear();
            if (amendments.isEmpty()) {
                return -9;
            }
            amendments.remove(amendments.size() - 1);
            return amendments.size();
        }

        Tree version(int day) {
            if (versions.containsKey(day)) {
                return versions.get(day);
            }
            List<Integer> order = new ArrayList<>();
            for (int at = 0; at < amendments.size(); at++) {
                if (amendments.get(at).day <= day) {
                    order.add(at);
                }
            }
            order.sort(Comparator.comparingInt(at -> amendments.get(at).day));
            Tree tree = new Tree(original.copy(null));
            for (int at : order) {
                tree.apply(at, amendments.get(at).instructions);
            }
            versions.put(day, tree);
            return tree;
        }

        private static boolean badDay(int day) {
            return day < -1 || day > 9999;
        }

        private int refusal(int day, int index) {
            if (badDay(day)) {
                return -4;
            }
            return index < 0 || index >= version(day).list().size() ? -2 : 0;
        }

        private Node at(int day, int index) {
            return version(day).list().get(index);
        }

        int provisionCount(int day) {
            return badDay(day) ? -4 : version(day).list().size();
        }

        int levelAt(int day, int index) {
            int refusal = refusal(day, index);
            return refusal != 0 ? refusal : at(day, index).level();
        }

        int textAt(int day, int index) {
            int refusal = refusal(day, index);
            return refusal != 0 ? refusal : at(day, index).text;
        }

        int isRepealedAt(int day, int index) {
            int refusal = refusal(day, index);
            return refusal != 0 ? refusal : at(day, index).repealed ? 1 : 0;
        }

        int pathLengthAt(int day, int index) {
            int refusal = refusal(day, index);
            return refusal != 0 ? refusal : at(day, index).path().length();
        }

        int pathCharacterAt(int day, int index, int position) {
            int refusal = refusal(day, index);
            if (refusal != 0) {
                return refusal;
            }
            String path = at(day, index).path();
            return position < 0 || position >= path.length() ? -9 : path.charAt(position);
        }

        int originAt(int day, int index) {
            int refusal = refusal(day, index);
            return refusal != 0 ? refusal : at(day, index).origin;
        }

        int creatorAt(int day, int index) {
            int refusal = refusal(day, index);
            return refusal != 0 ? refusal : at(day, index).creator;
        }

        int find(int day) {
            String path = input.toString();
            input.setLength(0);
            if (badDay(day)) {
                return -4;
            }
            int error = errorPosition(ONE_PATH, path);
            if (error >= 0) {
                return -1000 - error;
            }
            Tree tree = version(day);
            Node node = tree.byPath(path);
            return node == null ? -9 : tree.list().indexOf(node);
        }

        private static List<String> lines(Tree tree, boolean withOrigin) {
            List<String> lines = new ArrayList<>();
            for (Node node : tree.list()) {
                lines.add(node.path() + " " + node.text + " " + node.repealed + (withOrigin ? " " + node.origin : ""));
            }
            return lines;
        }

        int firstDifference(int day, int other) {
            if (badDay(day) || badDay(other)) {
                return -4;
            }
            List<String> one = lines(version(day), false);
            List<String> two = lines(version(other), false);
            for (int at = 0; at < Math.max(one.size(), two.size()); at++) {
                if (at >= one.size() || at >= two.size() || !one.get(at).equals(two.get(at))) {
                    return at;
                }
            }
            return -9;
        }

        private List<Integer> referencesOf(Node node) {
            return node.origin < 0 ? new ArrayList<>() : references.get(node.origin);
        }

        private static int lead(Tree tree, int target) {
            Node node = tree.byOrigin(target);
            return node == null || node.repealed ? -10 : tree.list().indexOf(node);
        }

        int referenceCountAt(int day, int index) {
            int refusal = refusal(day, index);
            return refusal != 0 ? refusal : referencesOf(at(day, index)).size();
        }

        int referenceAt(int day, int index, int reference) {
            int refusal = refusal(day, index);
            if (refusal != 0) {
                return refusal;
            }
            Tree tree = version(day);
            List<Integer> targets = referencesOf(tree.list().get(index));
            return reference < 0 || reference >= targets.size() ? -9 : lead(tree, targets.get(reference));
        }

        int danglingCount(int day) {
            if (badDay(day)) {
                return -4;
            }
            Tree tree = version(day);
            int count = 0;
            for (Node node : tree.list()) {
                for (int target : referencesOf(node)) {
                    count += !node.repealed && lead(tree, target) == -10 ? 1 : 0;
                }
            }
            return count;
        }

        int conflictCount(int day) {
            return badDay(day) ? -4 : version(day).conflicts.size();
        }

        int conflictPart(int day, int conflict, int part) {
            if (badDay(day)) {
                return -4;
            }
            List<int[]> conflicts = version(day).conflicts;
            return conflict < 0 || conflict >= conflicts.size() ? -9 : conflicts.get(conflict)[part];
        }

        int doCommute(int amendment, int other) {
            if (noAmendment(amendment) || noAmendment(other)) {
                return -3;
            }
            return afterBoth(amendment, other).equals(afterBoth(other, amendment)) ? 1 : 0;
        }

        private List<String> afterBoth(int first, int second) {
            Tree tree = new Tree(original.copy(null));
            tree.apply(first, amendments.get(first).instructions);
            tree.apply(second, amendments.get(second).instructions);
            return lines(tree, true);
        }

        int averageLevel(int day) {
            if (badDay(day)) {
                return -4;
            }
            float sum = 0;
            float count = 0;
            for (Node node : version(day).list()) {
                if (!node.repealed) {
                    sum += node.level();
                    count++;
                }
            }
            return Float.floatToIntBits(sum / count);
        }

        long repealedShare(int day) {
            if (badDay(day)) {
                return -4;
            }
            double repealed = 0;
            List<Node> nodes = version(day).list();
            for (Node node : nodes) {
                repealed += node.repealed ? 1 : 0;
            }
            return Double.doubleToLongBits(repealed / (double) nodes.size());
        }

        private static boolean badShelf(int shelf) {
            return shelf < 0 || shelf > 2;
        }

        int newShelf(int shelf, int type, int length) {
            if (badShelf(shelf) || type < 0 || type > 3 || length > 10) {
                return -5;
            }
            if (length < 0) {
                return -14;
            }
            shelves[shelf] = new Shelf(type, new Integer[length]);
            return 1;
        }

        int place(int shelf, int index, int provision) {
            if (badShelf(shelf)) {
                return -5;
            }
            Node node = provision(provision);
            if (node == null) {
                return -1;
            }
            if (shelves[shelf] == null) {
                return -11;
            }
            if (index < 0 || index >= shelves[shelf].elements.length) {
                return -12;
            }
            if (shelves[shelf].type != 0 && shelves[shelf].type != node.level()) {
                return -13;
            }
            shelves[shelf].elements[index] = provision;
            return 1;
        }

        int shelved(int shelf, int index) {
            if (badShelf(shelf)) {
                return -5;
            }
            if (shelves[shelf] == null) {
                return -11;
            }
            if (index < 0 || index >= shelves[shelf].elements.length) {
                return -12;
            }
            Integer element = shelves[shelf].elements[index];
            return element == null ? -11 : element;
        }

        int copyShelf(int shelf, int to) {
            if (badShelf(shelf) || badShelf(to)) {
                return -5;
            }
            if (shelves[shelf] == null) {
                return -11;
            }
            shelves[to] = new Shelf(shelves[shelf].type, shelves[shelf].elements.clone());
            return shelves[to].elements.length;
        }

        private void take(Model other) {
            versions.clear();
            original = other.original.copy(null);
            references = new ArrayList<>();
            for (List<Integer> targets : other.references) {
                references.add(new ArrayList<>(targets));
            }
            amendments = new ArrayList<>();
            for (Amendment amendment : other.amendments) {
                amendments.add(new Amendment(amendment.day, amendment.instructions));
            }
        }

        int saveSnapshot() {
            saved = new Model();
            saved.take(this);
            return provisions();
        }

        int restoreSnapshot() {
            if (saved == null) {
                return -9;
            }
            take(saved);
            Arrays.fill(shelves, null);
            return provisions();
        }
    }
}
