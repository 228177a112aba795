import java.util.NoSuchElementException;

/**
 * Calls that the document refuses, each one on an empty, a mixed and a full object. A refused call
 * has to answer as it is due, and then the object has to answer a long row of calls just as its
 * twin does, which never had the refused call.
 */
public final class PackagePickRefused {
    private static final int EMPTY = 0;
    private static final int MIXED = 1;
    private static final int FULL = 2;
    private static final int FALSE = 0;
    private static final int TRUE = 1;
    private static final int NONE = -1;
    private static final int ILLEGAL_ARGUMENT = -101;
    private static final int ILLEGAL_STATE = -102;
    private static final int NO_SUCH_ELEMENT = -103;
    private static final int MIN = Integer.MIN_VALUE;
    private static final int MAX = Integer.MAX_VALUE;

    // The first ones outside on both sides, then those that wrap around when they are multiplied by
    // the versions, shifted or negated, then the farthest.
    private static final int[] NO_PACKAGES = {
        -1, 7, -2, 8, -7, 14, 28, 32, -32, 1 << 28, 1 << 29, 1 << 30, -(1 << 30), 256, 65536, MIN + 1, MIN, MAX};
    private static final int[] NO_VERSIONS = {
        -1, 4, -2, 5, -4, 8, 16, 28, 31, 32, 33, -32, 1 << 30, -(1 << 30), 256, 65536, MIN + 1, MIN, MAX};
    private static final int[] NO_AIMS = {-1, 3, -2, 4, 32, 256, MIN + 1, MIN, MAX};

    private static final String[] WANTED = {"", "", ""};
    private static int wrong = 0;

    private interface Call {
        int on(PackagePick x);
    }

    public static void main(String[] args) {
        fixturesAreAsMeant();
        for (int kind = EMPTY; kind <= FULL; kind++) {
            WANTED[kind] = answers(make(kind));
        }
        theProbeSeesEveryChange();
        versionNoSuchOne();
        versionIsThere();
        needNotThere();
        needHasFour();
        needIsNone();
        dropNotThere();
        banNoSuchVersions();
        banOfOnePackage();
        banThereAreSixteen();
        askIsNone();
        askThereAreSix();
        takeNoneSuch();
        solveNoSuchAim();
        solveNoChoice();
        chosenNoSuchPackage();
        canNoSuchPackage();
        coreNoneSuch();
        countAnotherWhat();
        readingChangesNothing();
        System.out.println(wrong == 0 ? "all that is refused changes nothing" : wrong + " answers are wrong");
        if (wrong != 0) {
            System.exit(1);
        }
    }

    // ---- Promise 2: "false, changing nothing, if there is no such one, or it is there"

    private static void versionNoSuchOne() {
        for (int p : NO_PACKAGES) {
            everywhere("version(" + p + ", 0)", x -> bit(x.version(p, 0)), FALSE);
            everywhere("version(" + p + ", 3)", x -> bit(x.version(p, 3)), FALSE);
            // What a number p * 4 + v alone would take for a version.
            everywhere("version(" + p + ", 4 - 4 * p)", x -> bit(x.version(p, 4 - 4 * p)), FALSE);
        }
        for (int v : NO_VERSIONS) {
            everywhere("version(0, " + v + ")", x -> bit(x.version(0, v)), FALSE);
            everywhere("version(4, " + v + ")", x -> bit(x.version(4, v)), FALSE);
            everywhere("version(6, " + v + ")", x -> bit(x.version(6, v)), FALSE);
        }
    }

    private static void versionIsThere() {
        refused(MIXED, "version(0, 0)", x -> bit(x.version(0, 0)), FALSE);
        refused(MIXED, "version(0, 3) with 2 needs", x -> bit(x.version(0, 3)), FALSE);
        refused(MIXED, "version(1, 2) with 4 needs", x -> bit(x.version(1, 2)), FALSE);
        refused(MIXED, "version(6, 3)", x -> bit(x.version(6, 3)), FALSE);
        for (int p = 0; p < 7; p++) {
            for (int v = 0; v < 4; v++) {
                int q = p;
                int w = v;
                refused(FULL, "version(" + p + ", " + v + ")", x -> bit(x.version(q, w)), FALSE);
            }
        }
    }

    // ---- Promise 3: "false, changing nothing, if it isn't there, has 4, or that is none"

    private static void needNotThere() {
        for (int p = 0; p < 7; p++) {
            for (int v = 0; v < 4; v++) {
                int q = p;
                int w = v;
                refused(EMPTY, "need(" + p + ", " + v + ", 1, 0, 3)", x -> bit(x.need(q, w, 1, 0, 3)), FALSE);
            }
        }
        refused(MIXED, "need(0, 1, 1, 0, 3)", x -> bit(x.need(0, 1, 1, 0, 3)), FALSE);
        refused(MIXED, "need(6, 2, 1, 0, 3)", x -> bit(x.need(6, 2, 1, 0, 3)), FALSE);
        refused(MIXED, "need(4, 0, 1, 0, 3)", x -> bit(x.need(4, 0, 1, 0, 3)), FALSE);
        for (int p : NO_PACKAGES) {
            everywhere("need(" + p + ", 0, 1, 0, 3)", x -> bit(x.need(p, 0, 1, 0, 3)), FALSE);
            everywhere("need(" + p + ", 3, 1, 0, 3)", x -> bit(x.need(p, 3, 1, 0, 3)), FALSE);
        }
        for (int v : NO_VERSIONS) {
            everywhere("need(0, " + v + ", 1, 0, 3)", x -> bit(x.need(0, v, 1, 0, 3)), FALSE);
            everywhere("need(6, " + v + ", 1, 0, 3)", x -> bit(x.need(6, v, 1, 0, 3)), FALSE);
            everywhere("need(1, " + v + ", 1, 0, 3)", x -> bit(x.need(1, v, 1, 0, 3)), FALSE);
        }
    }

    private static void needHasFour() {
        refused(MIXED, "fifth need(1, 2, 2, 0, 0)", x -> bit(x.need(1, 2, 2, 0, 0)), FALSE);
        refused(MIXED, "fifth need(1, 2, 5, 0, 3)", x -> bit(x.need(1, 2, 5, 0, 3)), FALSE);
        refused(MIXED, "fifth need(1, 2, 2, 1, 3)", x -> bit(x.need(1, 2, 2, 1, 3)), FALSE);
        for (int p = 0; p < 7; p++) {
            for (int v = 0; v < 4; v++) {
                int q = p;
                int w = v;
                refused(FULL, "fifth need of " + p + ", " + v, x -> bit(x.need(q, w, q, 0, 0)), FALSE);
            }
        }
    }

    private static void needIsNone() {
        for (int q : NO_PACKAGES) {
            everywhere("need(0, 0, " + q + ", 0, 3)", x -> bit(x.need(0, 0, q, 0, 3)), FALSE);
            everywhere("need(6, 3, " + q + ", 1, 1)", x -> bit(x.need(6, 3, q, 1, 1)), FALSE);
        }
        for (int v : NO_VERSIONS) {
            everywhere("need(0, 0, 1, " + v + ", 3)", x -> bit(x.need(0, 0, 1, v, 3)), FALSE);
            everywhere("need(0, 0, 1, 0, " + v + ")", x -> bit(x.need(0, 0, 1, 0, v)), FALSE);
            everywhere("need(0, 0, 1, 3, " + v + ")", x -> bit(x.need(0, 0, 1, 3, v)), FALSE);
            everywhere("need(0, 0, 1, " + v + ", " + v + ")", x -> bit(x.need(0, 0, 1, v, v)), FALSE);
        }
        for (int a = 1; a < 4; a++) {
            for (int b = 0; b < a; b++) {
                int from = a;
                int to = b;
                everywhere("need(0, 0, 1, " + a + ", " + b + ")", x -> bit(x.need(0, 0, 1, from, to)), FALSE);
                everywhere("need(0, 0, 0, " + a + ", " + b + ")", x -> bit(x.need(0, 0, 0, from, to)), FALSE);
            }
        }
        everywhere("need(0, 0, 1, MIN, MAX)", x -> bit(x.need(0, 0, 1, MIN, MAX)), FALSE);
        everywhere("need(0, 0, 1, MAX, MIN)", x -> bit(x.need(0, 0, 1, MAX, MIN)), FALSE);
        everywhere("need(0, 0, 1, -1, 4)", x -> bit(x.need(0, 0, 1, -1, 4)), FALSE);
    }

    // ---- Promise 4: "false if it isn't there"

    private static void dropNotThere() {
        for (int p = 0; p < 7; p++) {
            for (int v = 0; v < 4; v++) {
                int q = p;
                int w = v;
                refused(EMPTY, "drop(" + p + ", " + v + ")", x -> bit(x.drop(q, w)), FALSE);
            }
        }
        refused(MIXED, "drop(0, 1)", x -> bit(x.drop(0, 1)), FALSE);
        refused(MIXED, "drop(0, 2)", x -> bit(x.drop(0, 2)), FALSE);
        refused(MIXED, "drop(6, 2)", x -> bit(x.drop(6, 2)), FALSE);
        refused(MIXED, "drop(4, 0)", x -> bit(x.drop(4, 0)), FALSE);
        for (int p : NO_PACKAGES) {
            everywhere("drop(" + p + ", 0)", x -> bit(x.drop(p, 0)), FALSE);
            everywhere("drop(" + p + ", 3)", x -> bit(x.drop(p, 3)), FALSE);
            everywhere("drop(" + p + ", 4 - 4 * p)", x -> bit(x.drop(p, 4 - 4 * p)), FALSE);
        }
        for (int v : NO_VERSIONS) {
            everywhere("drop(0, " + v + ")", x -> bit(x.drop(0, v)), FALSE);
            everywhere("drop(1, " + v + ")", x -> bit(x.drop(1, v)), FALSE);
            everywhere("drop(6, " + v + ")", x -> bit(x.drop(6, v)), FALSE);
        }
    }

    // ---- Promise 5: "false, changing nothing, if there are no such VERSIONS, both are of one
    // package, or there are 16"

    private static void banNoSuchVersions() {
        for (int p : NO_PACKAGES) {
            everywhere("ban(" + p + ", 0, 1, 0)", x -> bit(x.ban(p, 0, 1, 0)), FALSE);
            everywhere("ban(1, 1, " + p + ", 3)", x -> bit(x.ban(1, 1, p, 3)), FALSE);
            everywhere("ban(" + p + ", 0, " + p + ", 1)", x -> bit(x.ban(p, 0, p, 1)), FALSE);
            everywhere("ban(" + p + ", 0, -1 - p, 0)", x -> bit(x.ban(p, 0, -1 - p, 0)), FALSE);
        }
        for (int v : NO_VERSIONS) {
            everywhere("ban(0, " + v + ", 6, 0)", x -> bit(x.ban(0, v, 6, 0)), FALSE);
            everywhere("ban(6, " + v + ", 0, 0)", x -> bit(x.ban(6, v, 0, 0)), FALSE);
            everywhere("ban(0, 3, 6, " + v + ")", x -> bit(x.ban(0, 3, 6, v)), FALSE);
            everywhere("ban(6, 3, 0, " + v + ")", x -> bit(x.ban(6, 3, 0, v)), FALSE);
            everywhere("ban(0, " + v + ", 6, " + v + ")", x -> bit(x.ban(0, v, 6, v)), FALSE);
        }
    }

    private static void banOfOnePackage() {
        for (int p = 0; p < 7; p++) {
            for (int v = 0; v < 4; v++) {
                int q = p;
                int w = v;
                everywhere("ban(" + p + ", " + v + ", " + p + ", " + v + ")", x -> bit(x.ban(q, w, q, w)), FALSE);
                everywhere("ban(" + p + ", " + v + ", " + p + ", 3 - v)", x -> bit(x.ban(q, w, q, 3 - w)), FALSE);
            }
        }
    }

    private static void banThereAreSixteen() {
        refused(FULL, "17th, a new one", x -> bit(x.ban(0, 2, 6, 2)), FALSE);
        refused(FULL, "17th, one that is told", x -> bit(x.ban(5, 3, 6, 3)), FALSE);
        refused(FULL, "17th, one that is told, from behind", x -> bit(x.ban(6, 3, 5, 3)), FALSE);
    }

    // ---- Promise 6: "false, changing nothing, if there are 6, or it is none"

    private static void askIsNone() {
        for (int q : NO_PACKAGES) {
            everywhere("ask(" + q + ", 0, 3)", x -> bit(x.ask(q, 0, 3)), FALSE);
            everywhere("ask(" + q + ", 2, 2)", x -> bit(x.ask(q, 2, 2)), FALSE);
        }
        for (int v : NO_VERSIONS) {
            everywhere("ask(0, " + v + ", 3)", x -> bit(x.ask(0, v, 3)), FALSE);
            everywhere("ask(0, 0, " + v + ")", x -> bit(x.ask(0, 0, v)), FALSE);
            everywhere("ask(6, 3, " + v + ")", x -> bit(x.ask(6, 3, v)), FALSE);
            everywhere("ask(6, " + v + ", " + v + ")", x -> bit(x.ask(6, v, v)), FALSE);
        }
        for (int a = 1; a < 4; a++) {
            for (int b = 0; b < a; b++) {
                int from = a;
                int to = b;
                everywhere("ask(0, " + a + ", " + b + ")", x -> bit(x.ask(0, from, to)), FALSE);
                everywhere("ask(6, " + a + ", " + b + ")", x -> bit(x.ask(6, from, to)), FALSE);
            }
        }
        everywhere("ask(0, MIN, MAX)", x -> bit(x.ask(0, MIN, MAX)), FALSE);
        everywhere("ask(0, MAX, MIN)", x -> bit(x.ask(0, MAX, MIN)), FALSE);
        everywhere("ask(0, -1, 4)", x -> bit(x.ask(0, -1, 4)), FALSE);
    }

    private static void askThereAreSix() {
        refused(FULL, "7th, one that is asked", x -> bit(x.ask(0, 0, 3)), FALSE);
        refused(FULL, "7th, a narrower one", x -> bit(x.ask(0, 0, 0)), FALSE);
        refused(FULL, "7th, another package", x -> bit(x.ask(6, 3, 3)), FALSE);
    }

    // ---- Promise 7: "false if there is none such"

    private static void takeNoneSuch() {
        int[] asked = {0, 3, 6};
        for (int kind = EMPTY; kind <= FULL; kind++) {
            int[] none = {asked[kind], asked[kind] + 1, -1, -2, -asked[kind], 7, 32, 256, -32, MIN + 1, MIN, MAX};
            for (int i : none) {
                if (i != 0 || kind == EMPTY) {
                    refused(kind, "take(" + i + ")", x -> bit(x.take(i)), FALSE);
                }
            }
        }
    }

    // ---- Promise 8: "IllegalArgumentException: there is no such AIM", "IllegalStateException: there
    // is no CHOICE (then the core() of now is told; the CHOICE that was told stays)"

    private static void solveNoSuchAim() {
        for (int aim : NO_AIMS) {
            everywhere("solve(" + aim + ")", x -> solve(x, aim), ILLEGAL_ARGUMENT);
        }
        // Without a choice too, and then nothing new is told by core().
        for (int aim : NO_AIMS) {
            PackagePick x = new PackagePick();
            x.ask(2, 0, 3);
            due("no choice, solve(" + aim + ")", solve(x, aim), ILLEGAL_ARGUMENT);
            due("no choice, solve(" + aim + "), core(0)", core(x, 0), NO_SUCH_ELEMENT);
            due("no choice, solve(" + aim + "), count(3)", x.count(3), 1);
        }
    }

    private static void solveNoChoice() {
        for (int aim = 0; aim < 3; aim++) {
            PackagePick x = make(MIXED);
            due("a need that nothing meets", bit(x.ask(2, 1, 3)), TRUE);
            String told = told(x);
            due("solve(" + aim + ")", solve(x, aim), ILLEGAL_STATE);
            same("what is told after solve(" + aim + ")", told(x), told);
            due("the core of now", core(x, 0), 3);
            due("its end", core(x, 1), NO_SUCH_ELEMENT);
            due("none taken", bit(x.take(3)), TRUE);
            due("the core before", core(x, 0), 3);
            // But for the core, the object is as it was.
            PackagePick y = make(MIXED);
            same("after a solve(" + aim + ") without a choice", rest(x), rest(y));
        }
    }

    // ---- Promise 10: "NONE without, or if there is no such package"

    private static void chosenNoSuchPackage() {
        for (int p : NO_PACKAGES) {
            everywhere("chosen(" + p + ")", x -> x.chosen(p), NONE);
        }
    }

    // ---- Promise 12: "NONE: there is no such package"

    private static void canNoSuchPackage() {
        for (int p : NO_PACKAGES) {
            everywhere("can(" + p + ")", x -> x.can(p), NONE);
        }
        PackagePick x = new PackagePick();
        x.ask(0, 0, 3);
        for (int p : NO_PACKAGES) {
            due("no choice, can(" + p + ")", x.can(p), NONE);
        }
        due("no choice, can(0)", x.can(0), 0);
        due("no choice, can(6)", x.can(6), 0);
    }

    // ---- Promise 13: "NoSuchElementException: there is none such"

    private static void coreNoneSuch() {
        int[] cores = {0, 2, 0};
        for (int kind = EMPTY; kind <= FULL; kind++) {
            int[] none = {cores[kind], cores[kind] + 1, -1, -2, 5, 6, 7, 32, 256, -32, MIN + 1, MIN, MAX};
            for (int i : none) {
                refused(kind, "core(" + i + ")", x -> core(x, i), NO_SUCH_ELEMENT);
            }
        }
    }

    // ---- Promise 14: "NONE for another what"

    private static void countAnotherWhat() {
        int[] others = {-1, 7, -2, 8, 32, -32, 256, 65536, MIN + 1, MIN, MAX};
        for (int what : others) {
            everywhere("count(" + what + ")", x -> x.count(what), NONE);
        }
    }

    private static void readingChangesNothing() {
        for (int kind = EMPTY; kind <= FULL; kind++) {
            PackagePick x = make(kind);
            String first = look(x);
            same("a second look at kind " + kind, look(x), first);
            if (kind != FULL) {
                same("after looks at kind " + kind, answers(x), WANTED[kind]);
            }
        }
    }

    // ---- The three objects

    private static PackagePick make(int kind) {
        return kind == EMPTY ? new PackagePick() : kind == MIXED ? mixed() : full();
    }

    /** 8 versions, 7 needs, 3 bans, 3 asked; told, kept and a core of two; room for more of each. */
    private static PackagePick mixed() {
        PackagePick x = new PackagePick();
        int[] versions = {0, 0, 0, 3, 1, 1, 1, 2, 2, 0, 3, 3, 6, 0, 6, 3};
        for (int i = 0; i < versions.length; i += 2) {
            x.version(versions[i], versions[i + 1]);
        }
        x.need(0, 3, 1, 1, 2);
        x.need(0, 3, 1, 0, 3);
        for (int i = 0; i < 4; i++) {
            x.need(1, 2, 2, 0, 0);
        }
        x.need(6, 3, 0, 0, 3);
        x.ban(0, 0, 2, 0);
        x.ban(6, 0, 1, 1);
        x.ban(5, 0, 4, 0);
        x.ask(0, 0, 3);
        x.ask(6, 0, 3);
        x.solve(1);
        x.keep();
        x.solve(0);
        x.ask(6, 0, 0);
        x.ask(1, 1, 1);
        solve(x, 0);
        x.take(2);
        return x;
    }

    /** 28 versions, 112 needs, 16 bans, 6 asked: all packages have one version, which is not 3. */
    private static PackagePick full() {
        PackagePick x = new PackagePick();
        for (int p = 0; p < 7; p++) {
            for (int v = 0; v < 4; v++) {
                x.version(p, v);
                x.need(p, v, (p + 1) % 7, v, v);
                x.need(p, v, (p + 1) % 7, 0, 3);
                x.need(p, v, p, v, v);
                x.need(p, v, p, 0, 3);
            }
        }
        for (int i = 0; i < 16; i++) {
            if (i / 4 != i % 4) {
                x.ban(0, i / 4, 1, i % 4);
            }
        }
        x.ban(2, 0, 3, 1);
        x.ban(2, 0, 3, 2);
        x.ban(2, 0, 3, 3);
        x.ban(5, 3, 6, 3);
        for (int i = 0; i < 6; i++) {
            x.ask(0, 0, 3);
        }
        x.solve(0);
        x.keep();
        return x;
    }

    private static void fixturesAreAsMeant() {
        same("empty", look(make(EMPTY)), "-1 0 0 0 0 0 0 0 -1 | -1 -1 -1 -1 -1 -1 -1 -1 -1 | 1"
            + " | -1 16 16 16 16 16 16 16 -1 | -103 -103 -103 -103 -103 -103 -103 -103");
        same("mixed", look(make(MIXED)), "-1 8 7 3 3 4 2 3 -1 | -1 3 2 0 -1 -1 -1 3 -1 | 2"
            + " | -1 9 2 16 16 16 16 8 -1 | -103 2 3 -103 -103 -103 -103 -103");
        same("full", look(make(FULL)), "-1 28 112 16 6 7 7 0 -1 | -1 2 2 2 2 2 2 2 -1 | 3"
            + " | -1 7 7 7 7 7 7 7 -1 | -103 -103 -103 -103 -103 -103 -103 -103");
    }

    // A probe that sees nothing would let every refused call pass.
    private static void theProbeSeesEveryChange() {
        seen(EMPTY, x -> bit(x.version(0, 0)));
        seen(EMPTY, x -> bit(x.version(6, 3)));
        seen(EMPTY, x -> bit(x.ban(0, 0, 1, 0)));
        seen(EMPTY, x -> bit(x.ask(6, 3, 3)));
        seen(MIXED, x -> bit(x.version(4, 3)));
        seen(MIXED, x -> bit(x.need(0, 0, 5, 0, 3)));
        seen(MIXED, x -> bit(x.need(6, 3, 6, 0, 3)));
        seen(MIXED, x -> bit(x.need(1, 1, 1, 0, 3)));
        seen(MIXED, x -> bit(x.drop(3, 3)));
        seen(MIXED, x -> bit(x.ban(4, 0, 5, 0)));
        seen(MIXED, x -> bit(x.ask(0, 0, 3)));
        seen(MIXED, x -> bit(x.take(1)));
        seen(MIXED, x -> x.keep());
        seen(MIXED, x -> solve(x, 0));
        seen(FULL, x -> bit(x.drop(4, 1)));
        seen(FULL, x -> bit(x.take(5)));
    }

    private static void seen(int kind, Call call) {
        PackagePick x = make(kind);
        int answer = call.on(x);
        if (answer == FALSE || answers(x).equals(WANTED[kind])) {
            wrong++;
            System.out.println("the probe sees no change of kind " + kind);
        }
    }

    // ---- Everything that an object answers

    private static String look(PackagePick x) {
        StringBuilder s = new StringBuilder();
        for (int what = -1; what < 8; what++) {
            s.append(x.count(what)).append(' ');
        }
        s.append('|');
        for (int p = -1; p < 8; p++) {
            s.append(' ').append(x.chosen(p));
        }
        s.append(" | ").append(x.many()).append(" |");
        for (int p = -1; p < 8; p++) {
            s.append(' ').append(x.can(p));
        }
        s.append(" |");
        for (int i = -1; i < 7; i++) {
            s.append(' ').append(core(x, i));
        }
        return s.toString();
    }

    /** The object is spent by it; these are fewer than 350 calls. */
    private static String answers(PackagePick x) {
        return look(x) + rest(x);
    }

    private static String told(PackagePick x) {
        StringBuilder s = new StringBuilder();
        for (int p = 0; p < 7; p++) {
            s.append(x.chosen(p)).append(' ');
        }
        return s.append(x.count(4)).append(' ').append(x.count(5)).append(' ').append(x.count(6)).toString();
    }

    private static String rest(PackagePick x) {
        StringBuilder s = new StringBuilder();
        for (int aim = 2; aim >= 0; aim--) {
            s.append("; ").append(solve(x, aim)).append(": ").append(told(x));
        }
        s.append("; kept ").append(x.keep()).append("; asked ");
        for (int i = 0; i < 7; i++) {
            s.append(bit(x.take(0)));
        }
        singlesAndPairs(x, s);
        freePlaces(x, s);
        return s.toString();
    }

    private static void singlesAndPairs(PackagePick x, StringBuilder s) {
        for (int q = 0; q < 7; q++) {
            x.ask(q, 0, 3);
            s.append("; with ").append(q).append(' ').append(x.many()).append(' ').append(x.can(q));
            for (int r = q + 1; r < 7; r++) {
                x.ask(r, 0, 3);
                s.append(' ').append(x.many());
                x.take(1);
            }
            x.take(0);
        }
    }

    private static void freePlaces(PackagePick x, StringBuilder s) {
        s.append("; needs");
        for (int p = 0; p < 7; p++) {
            for (int v = 0; v < 4; v++) {
                int free = 0;
                while (free < 6 && x.need(p, v, p, 0, 3)) {
                    free++;
                }
                s.append(' ').append(free);
            }
        }
        int bans = 0;
        while (bans < 18 && x.ban(0, 0, 6, 0)) {
            bans++;
        }
        int wishes = 0;
        while (wishes < 8 && x.ask(0, 0, 3)) {
            wishes++;
        }
        s.append("; bans ").append(bans).append("; asked ").append(wishes);
    }

    // ---- What is due

    private static void everywhere(String name, Call call, int want) {
        for (int kind = EMPTY; kind <= FULL; kind++) {
            refused(kind, name, call, want);
        }
    }

    private static void refused(int kind, String name, Call call, int want) {
        PackagePick x = make(kind);
        due(name + " on kind " + kind, call.on(x), want);
        same("after " + name + " on kind " + kind, answers(x), WANTED[kind]);
    }

    private static int solve(PackagePick x, int aim) {
        try {
            return x.solve(aim);
        } catch (IllegalArgumentException e) {
            return ILLEGAL_ARGUMENT;
        } catch (IllegalStateException e) {
            return ILLEGAL_STATE;
        }
    }

    private static int core(PackagePick x, int i) {
        try {
            return x.core(i);
        } catch (NoSuchElementException e) {
            return NO_SUCH_ELEMENT;
        }
    }

    private static int bit(boolean answer) {
        return answer ? TRUE : FALSE;
    }

    private static void due(String name, int got, int want) {
        if (got != want) {
            wrong++;
            System.out.println(name + " answered " + got + ", due is " + want);
        }
    }

    private static void same(String name, String got, String want) {
        if (!got.equals(want)) {
            wrong++;
            System.out.println(name + ": " + got + ", due is " + want);
        }
    }
}
