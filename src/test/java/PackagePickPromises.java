import java.util.NoSuchElementException;

/** Each promise of the document by hand-made calls: ordinary inputs, its edges, wrong inputs. */
public final class PackagePickPromises {
    private static final int ILLEGAL_ARGUMENT = -101;
    private static final int ILLEGAL_STATE = -102;
    private static final int NO_SUCH_ELEMENT = -103;
    private static final int[] NO_PACKAGES = {-1, 7, 8, 28, Integer.MIN_VALUE, Integer.MAX_VALUE};
    private static final int[] NO_VERSIONS = {-1, 4, 5, 32, Integer.MIN_VALUE, Integer.MAX_VALUE};

    private static int wrong = 0;
    private static String promise = "";

    public static void main(String[] args) {
        newObject();
        version();
        need();
        needsOfChoices();
        drop();
        ban();
        ask();
        take();
        solveEdges();
        solveAims();
        solveFirstPackageFirst();
        solveChangesByPackage();
        solveWithoutChoice();
        keep();
        chosen();
        many();
        can();
        coreOrder();
        coreStays();
        count();
        System.out.println(wrong == 0 ? "all promises hold" : wrong + " answers are wrong");
        if (wrong != 0) {
            System.exit(1);
        }
    }

    private static void newObject() {
        promise = "1 new object";
        PackagePick x = new PackagePick();
        counts(x, 0, 0, 0, 0, 0, 0, 0);
        choice(x, -1, -1, -1, -1, -1, -1, -1);
        due("many", x.many(), 1);
        due("can", x.can(0), 16);
        due("core", core(x, 0), NO_SUCH_ELEMENT);
        due("keep", x.keep(), 0);
        due("solve", solve(x, 0), 0);
        due("NONE", PackagePick.NONE, -1);
        PackagePick y = new PackagePick();
        x.version(0, 0);
        due("another object's versions", y.count(0), 0);
    }

    private static void version() {
        promise = "2 version";
        PackagePick x = new PackagePick();
        for (int p = 0; p < 7; p++) {
            for (int v = 0; v < 4; v++) {
                due("new one", x.version(p, v), true);
                due("the same again", x.version(p, v), false);
                due("count", x.count(0), p * 4 + v + 1);
            }
        }
        for (int p : NO_PACKAGES) {
            due("no package", x.version(p, 0), false);
        }
        for (int v : NO_VERSIONS) {
            due("no version", x.version(0, v), false);
        }
        counts(x, 28, 0, 0, 0, 0, 0, 0);
        x.need(2, 1, 3, 0, 0);
        due("there with a need", x.version(2, 1), false);
        due("its need stays", x.count(1), 1);
    }

    private static void need() {
        promise = "3 need";
        PackagePick x = new PackagePick();
        due("not there", x.need(0, 0, 1, 0, 0), false);
        x.version(0, 0);
        x.version(0, 3);
        due("another version", x.need(0, 1, 1, 0, 0), false);
        for (int p : NO_PACKAGES) {
            due("no package p", x.need(p, 0, 1, 0, 0), false);
            due("no package q", x.need(0, 0, p, 0, 0), false);
        }
        for (int v : NO_VERSIONS) {
            due("no version v", x.need(0, v, 1, 0, 0), false);
            due("no a", x.need(0, 0, 1, v, 3), false);
            due("no b", x.need(0, 0, 1, 0, v), false);
        }
        due("a above b", x.need(0, 0, 1, 2, 1), false);
        due("none yet", x.count(1), 0);
        due("first", x.need(0, 0, 1, 0, 3), true);
        due("the same again", x.need(0, 0, 1, 0, 3), true);
        due("of itself", x.need(0, 0, 0, 0, 0), true);
        due("fourth", x.need(0, 0, 6, 3, 3), true);
        due("fifth", x.need(0, 0, 6, 3, 3), false);
        due("of another version", x.need(0, 3, 6, 3, 3), true);
        due("count", x.count(1), 5);
    }

    private static void needsOfChoices() {
        promise = "3 need, in choices";
        PackagePick x = new PackagePick();
        x.version(0, 1);
        x.version(0, 2);
        x.ask(0, 0, 3);
        x.need(0, 2, 0, 0, 1);
        due("needs itself otherwise", solve(x, 0), 1);
        choice(x, 1, -1, -1, -1, -1, -1, -1);
        x.need(0, 1, 0, 1, 1);
        due("needs itself as it is", x.many(), 1);
        x.need(0, 1, 5, 1, 2);
        due("a need of what is not there", solve(x, 0), ILLEGAL_STATE);
        x.version(5, 0);
        x.version(5, 3);
        due("a need outside its range", solve(x, 0), ILLEGAL_STATE);
        x.version(5, 1);
        due("a need at its range's begin", solve(x, 0), 2);
        choice(x, 1, -1, -1, -1, -1, 1, -1);
        x.version(5, 2);
        due("a need at its range's end", solve(x, 0), 2);
        choice(x, 1, -1, -1, -1, -1, 2, -1);
        x.need(0, 1, 5, 0, 1);
        due("two needs of one package", x.can(5), 2);
    }

    private static void drop() {
        promise = "4 drop";
        PackagePick x = new PackagePick();
        due("not there", x.drop(0, 0), false);
        x.version(1, 2);
        x.version(1, 3);
        x.need(1, 2, 3, 0, 0);
        x.need(1, 3, 3, 0, 0);
        x.ban(1, 2, 4, 0);
        x.ask(1, 2, 2);
        for (int p : NO_PACKAGES) {
            due("no package", x.drop(p, 2), false);
        }
        for (int v : NO_VERSIONS) {
            due("no version", x.drop(1, v), false);
        }
        due("there", x.drop(1, 2), true);
        due("not there any more", x.drop(1, 2), false);
        counts(x, 1, 1, 1, 1, 0, 0, 0);
        due("no need of it", x.need(1, 2, 3, 0, 0), false);
        due("there again", x.version(1, 2), true);
        counts(x, 2, 1, 1, 1, 0, 0, 0);
        due("without its needs", solve(x, 0), 1);
        x.version(4, 0);
        x.ask(4, 0, 0);
        due("its ban stands", solve(x, 0), ILLEGAL_STATE);
        due("of what is told", x.drop(1, 2), true);
        due("what is told stays", x.chosen(1), 2);
        x.take(1);
        x.version(1, 2);
        x.version(3, 1);
        due("a new need", x.need(1, 2, 3, 1, 1), true);
        due("the new need alone", solve(x, 0), 2);
    }

    private static void ban() {
        promise = "5 ban";
        PackagePick x = new PackagePick();
        for (int p : NO_PACKAGES) {
            due("no package p", x.ban(p, 0, 1, 0), false);
            due("no package q", x.ban(0, 0, p, 0), false);
        }
        for (int v : NO_VERSIONS) {
            due("no version v", x.ban(0, v, 1, 0), false);
            due("no version w", x.ban(0, 0, 1, v), false);
        }
        due("one package", x.ban(2, 0, 2, 1), false);
        due("one version", x.ban(2, 0, 2, 0), false);
        due("none yet", x.count(2), 0);
        due("not there", x.ban(0, 3, 6, 1), true);
        due("not there, from behind", x.ban(6, 2, 0, 2), true);
        for (int v = 0; v < 4; v++) {
            x.version(0, v);
            x.version(6, v);
        }
        x.ask(0, 0, 3);
        x.ask(6, 0, 2);
        due("choices", x.many(), 10);
        due("best", solve(x, 0), 2);
        choice(x, 3, -1, -1, -1, -1, -1, 2);
        x.take(1);
        x.ask(6, 1, 1);
        solve(x, 0);
        choice(x, 2, -1, -1, -1, -1, -1, 1);
        due("bans do no harm to what is not chosen", x.can(0), 7);
        for (int i = 2; i < 16; i++) {
            due("up to 16", x.ban(1, i % 4, 2, i / 4), true);
        }
        due("the 17th", x.ban(3, 0, 4, 0), false);
        due("count", x.count(2), 16);
    }

    private static void ask() {
        promise = "6 ask";
        PackagePick x = new PackagePick();
        for (int p : NO_PACKAGES) {
            due("no package", x.ask(p, 0, 0), false);
        }
        for (int v : NO_VERSIONS) {
            due("no a", x.ask(0, v, 3), false);
            due("no b", x.ask(0, 0, v), false);
        }
        due("a above b", x.ask(0, 3, 2), false);
        due("none yet", x.count(3), 0);
        for (int v = 0; v < 4; v++) {
            x.version(3, v);
        }
        due("not there", x.ask(3, 0, 2), true);
        due("the same again", x.ask(3, 0, 2), true);
        due("another range", x.ask(3, 1, 3), true);
        due("both are met", x.can(3), 6);
        due("4th", x.ask(3, 0, 3), true);
        due("5th", x.ask(3, 0, 3), true);
        due("6th", x.ask(3, 2, 2), true);
        due("7th", x.ask(3, 1, 1), false);
        due("count", x.count(3), 6);
        due("as asked", x.can(3), 4);
    }

    private static void take() {
        promise = "7 take";
        PackagePick x = new PackagePick();
        due("none asked", x.take(0), false);
        for (int p = 0; p < 6; p++) {
            x.version(p, 0);
            x.ask(p, 0, 0);
        }
        due("below", x.take(-1), false);
        due("behind", x.take(6), false);
        due("far below", x.take(Integer.MIN_VALUE), false);
        due("far behind", x.take(Integer.MAX_VALUE), false);
        due("all are there", solve(x, 0), 6);
        due("the last", x.take(5), true);
        due("it is gone", x.take(5), false);
        solve(x, 0);
        choice(x, 0, 0, 0, 0, 0, -1, -1);
        due("the first", x.take(0), true);
        due("one in the middle", x.take(1), true);
        solve(x, 0);
        choice(x, -1, 0, -1, 0, 0, -1, -1);
        due("count", x.count(3), 3);
        due("a new one", x.ask(6, 0, 0), true);
        due("it is the last", solve(x, 0), ILLEGAL_STATE);
        due("its number", core(x, 0), 3);
        PackagePick y = new PackagePick();
        y.version(1, 0);
        y.version(1, 1);
        y.ask(0, 0, 0);
        y.ask(1, 1, 1);
        due("the first of two", y.take(0), true);
        due("the other moves up with its range", y.can(1), 2);
        due("the only one", y.take(0), true);
        due("none is left", y.can(1), 16);
    }

    private static void solveEdges() {
        promise = "8 solve, the choices";
        PackagePick x = new PackagePick();
        x.version(0, 3);
        x.version(1, 0);
        x.version(2, 0);
        x.need(1, 0, 2, 0, 3);
        x.need(2, 0, 1, 0, 3);
        for (int aim = 0; aim < 3; aim++) {
            due("nothing asked", solve(x, aim), 0);
        }
        x.ask(0, 0, 3);
        due("a ring that nobody asks for", solve(x, 0), 1);
        choice(x, 3, -1, -1, -1, -1, -1, -1);
        x.ask(2, 0, 0);
        due("a ring that is asked for", solve(x, 0), 3);
        choice(x, 3, 0, 0, -1, -1, -1, -1);
        due("aim -1", solve(x, -1), ILLEGAL_ARGUMENT);
        due("aim 3", solve(x, 3), ILLEGAL_ARGUMENT);
        due("least aim", solve(x, Integer.MIN_VALUE), ILLEGAL_ARGUMENT);
        due("greatest aim", solve(x, Integer.MAX_VALUE), ILLEGAL_ARGUMENT);
        choice(x, 3, 0, 0, -1, -1, -1, -1);
        PackagePick y = new PackagePick();
        for (int p = 0; p < 7; p++) {
            y.version(p, p % 4);
            y.need(p, p % 4, (p + 1) % 7, 0, 3);
        }
        y.ask(4, 0, 3);
        due("a chain through all", solve(y, 0), 7);
        choice(y, 0, 1, 2, 3, 0, 1, 2);
    }

    /** Package 0 in version 3 needs two more, in version 1 one more, in version 0 none. */
    private static PackagePick chains() {
        PackagePick x = new PackagePick();
        x.version(0, 0);
        x.version(0, 1);
        x.version(0, 3);
        x.version(1, 0);
        x.version(1, 2);
        x.version(2, 1);
        x.version(2, 2);
        x.need(0, 3, 1, 0, 3);
        x.need(0, 3, 2, 0, 3);
        x.need(0, 1, 1, 0, 3);
        x.ask(0, 0, 3);
        return x;
    }

    private static void solveAims() {
        promise = "8 solve, the aims";
        PackagePick x = chains();
        due("choices", x.many(), 7);
        due("aim 0", solve(x, 0), 3);
        choice(x, 3, 2, 2, -1, -1, -1, -1);
        due("aim 1", solve(x, 1), 1);
        choice(x, 0, -1, -1, -1, -1, -1, -1);
        x.drop(0, 0);
        due("aim 1 among equals", solve(x, 1), 2);
        choice(x, 1, 2, -1, -1, -1, -1, -1);
        x.version(0, 0);
        due("aim 2 without a kept one", solve(x, 2), 1);
        choice(x, 0, -1, -1, -1, -1, -1, -1);
        x.ask(1, 0, 0);
        solve(x, 0);
        choice(x, 3, 0, 2, -1, -1, -1, -1);
        x.keep();
        x.take(1);
        due("aim 2 stays with the kept one", solve(x, 2), 3);
        choice(x, 3, 0, 2, -1, -1, -1, -1);
        x.drop(0, 3);
        x.drop(1, 0);
        x.need(0, 0, 2, 0, 3);
        due("aim 2 by fewest changes", solve(x, 2), 2);
        choice(x, 0, -1, 2, -1, -1, -1, -1);
        x.version(0, 2);
        x.need(0, 2, 2, 0, 3);
        due("aim 2 among equals", solve(x, 2), 2);
        choice(x, 2, -1, 2, -1, -1, -1, -1);
        due("a package left out is a change", x.count(6), 2);
    }

    private static void solveFirstPackageFirst() {
        promise = "8 solve, the first package first";
        PackagePick x = new PackagePick();
        for (int p = 0; p < 2; p++) {
            x.version(p, 0);
            x.version(p, 1);
            x.ask(p, 0, 3);
        }
        x.ban(0, 1, 1, 1);
        for (int aim = 0; aim < 2; aim++) {
            solve(x, aim);
            choice(x, 1, 0, -1, -1, -1, -1, -1);
        }
        PackagePick y = new PackagePick();
        y.version(0, 0);
        y.version(6, 0);
        y.version(6, 3);
        y.need(6, 0, 0, 0, 0);
        y.ask(6, 0, 3);
        due("no version is less than version 0", solve(y, 0), 2);
        choice(y, 0, -1, -1, -1, -1, -1, 0);
        due("fewest", solve(y, 1), 1);
        choice(y, -1, -1, -1, -1, -1, -1, 3);
    }

    private static void solveChangesByPackage() {
        promise = "8 solve, another version is one change";
        PackagePick x = new PackagePick();
        x.version(0, 3);
        x.version(1, 0);
        x.version(2, 0);
        x.ask(0, 0, 3);
        solve(x, 0);
        x.keep();
        x.version(0, 1);
        x.need(0, 3, 1, 0, 0);
        x.need(0, 3, 2, 0, 0);
        due("one other version before two more packages", solve(x, 2), 1);
        choice(x, 1, -1, -1, -1, -1, -1, -1);
    }

    private static void solveWithoutChoice() {
        promise = "8 solve, no choice";
        PackagePick x = chains();
        solve(x, 0);
        x.keep();
        x.ask(5, 0, 3);
        for (int aim = 0; aim < 3; aim++) {
            due("asked is not there", solve(x, aim), ILLEGAL_STATE);
            choice(x, 3, 2, 2, -1, -1, -1, -1);
        }
        due("a wrong aim comes first", solve(x, 3), ILLEGAL_ARGUMENT);
        counts(x, 7, 3, 0, 2, 3, 3, 0);
        due("no choices", x.many(), 0);
        due("core", core(x, 0), 1);
    }

    private static void keep() {
        promise = "9 keep";
        PackagePick x = chains();
        due("nothing told", x.keep(), 0);
        solve(x, 0);
        due("nothing kept before", x.keep(), 3);
        due("again", x.keep(), 0);
        solve(x, 1);
        due("told, not kept", x.count(5), 3);
        due("another version and two left out", x.count(6), 3);
        due("three are otherwise", x.keep(), 3);
        due("kept now", x.count(5), 1);
        due("no difference now", x.count(6), 0);
        choice(x, 0, -1, -1, -1, -1, -1, -1);
        x.take(0);
        solve(x, 0);
        due("an empty one", x.keep(), 1);
        due("none kept", x.count(5), 0);
    }

    private static void chosen() {
        promise = "10 chosen";
        PackagePick x = new PackagePick();
        for (int p = 0; p < 7; p++) {
            x.version(p, (p * 3) % 4);
            if (p != 3) {
                x.ask(p, 0, 3);
            }
        }
        choice(x, -1, -1, -1, -1, -1, -1, -1);
        solve(x, 0);
        choice(x, 0, 3, 2, -1, 0, 3, 2);
        for (int p : NO_PACKAGES) {
            due("no package", x.chosen(p), -1);
        }
        x.take(0);
        x.version(1, 0);
        choice(x, 0, 3, 2, -1, 0, 3, 2);
    }

    private static void many() {
        promise = "11 many";
        PackagePick x = new PackagePick();
        for (int p = 0; p < 7; p++) {
            for (int v = 0; v < 4; v++) {
                x.version(p, v);
                if (p == 0) {
                    x.need(p, v, 6, 0, 3);
                }
            }
        }
        int all = 1;
        for (int p = 0; p < 6; p++) {
            due("choices", x.many(), all);
            x.ask(p, 0, 3);
            all *= p == 0 ? 16 : 4;
        }
        due("the most choices", x.many(), 16384);
        for (int p = 0; p < 7; p++) {
            due("can", x.can(p), 15);
        }
        due("best of most", solve(x, 2), 7);
        choice(x, 3, 3, 3, 3, 3, 3, 3);
        x.drop(6, 0);
        due("one version less", x.many(), 12288);
    }

    private static void can() {
        promise = "12 can";
        PackagePick x = chains();
        due("package 0", x.can(0), 1 + 2 + 8);
        due("package 1", x.can(1), 1 + 4 + 16);
        due("package 2", x.can(2), 2 + 4 + 16);
        due("package 3", x.can(3), 16);
        x.version(3, 0);
        due("there, but never chosen", x.can(3), 16);
        x.ask(0, 1, 3);
        due("never without", x.can(1), 1 + 4);
        for (int p : NO_PACKAGES) {
            due("no package", x.can(p), -1);
        }
        x.ask(6, 0, 0);
        for (int p = 0; p < 7; p++) {
            due("no choice", x.can(p), 0);
        }
        due("no core by it", core(x, 0), NO_SUCH_ELEMENT);
    }

    private static void coreOrder() {
        promise = "13 core, which one";
        PackagePick x = new PackagePick();
        for (int p = 0; p < 4; p++) {
            x.version(p, 0);
            x.version(p, 1);
        }
        x.ask(2, 0, 0);
        x.ask(0, 0, 0);
        x.ask(1, 0, 0);
        x.ask(1, 1, 1);
        x.ask(0, 1, 1);
        x.ask(2, 1, 1);
        due("three pairs", solve(x, 0), ILLEGAL_STATE);
        cores(x, 0, 5);
        x.take(5);
        due("two pairs", solve(x, 1), ILLEGAL_STATE);
        cores(x, 1, 4);
        x.take(4);
        due("one pair", solve(x, 2), ILLEGAL_STATE);
        cores(x, 2, 3);
        x.ask(6, 0, 3);
        due("a single one goes before a pair", solve(x, 0), ILLEGAL_STATE);
        cores(x, 4);

        PackagePick y = new PackagePick();
        y.version(6, 3);
        for (int p = 0; p < 6; p++) {
            y.version(p, 0);
            y.ask(p, 0, 3);
        }
        for (int v = 0; v < 3; v++) {
            y.version(6, v);
        }
        y.need(1, 0, 6, 0, 1);
        y.need(3, 0, 6, 1, 2);
        y.need(4, 0, 6, 0, 0);
        y.need(5, 0, 6, 2, 3);
        due("needs that hinder", solve(y, 0), ILLEGAL_STATE);
        cores(y, 1, 5);

        PackagePick z = new PackagePick();
        for (int v = 0; v < 4; v++) {
            z.version(6, v);
        }
        for (int p = 0; p < 6; p++) {
            z.version(p, 0);
            z.ask(p, 0, 0);
        }
        z.need(2, 0, 6, 0, 3);
        z.ban(1, 0, 6, 0);
        z.ban(3, 0, 6, 1);
        z.ban(4, 0, 6, 2);
        z.ban(5, 0, 6, 3);
        due("five that hinder", solve(z, 0), ILLEGAL_STATE);
        cores(z, 1, 2, 3, 4, 5);
        z.ban(0, 0, 3, 0);
        due("a pair by a ban", solve(z, 0), ILLEGAL_STATE);
        cores(z, 0, 3);
    }

    private static void coreStays() {
        promise = "13 core, of the latest";
        PackagePick x = new PackagePick();
        x.version(0, 0);
        x.ask(0, 0, 0);
        x.ask(3, 0, 0);
        due("before all", core(x, 0), NO_SUCH_ELEMENT);
        due("no choices", x.many(), 0);
        due("many does not tell it", core(x, 0), NO_SUCH_ELEMENT);
        solve(x, 0);
        cores(x, 1);
        x.take(0);
        x.ask(4, 0, 0);
        due("a wrong aim", solve(x, 4), ILLEGAL_ARGUMENT);
        x.can(0);
        cores(x, 1);
        x.take(1);
        x.take(0);
        due("a solve that has a choice", solve(x, 0), 0);
        cores(x, 1);
        x.ask(5, 1, 2);
        cores(x, 1);
        due("a solve that has none", solve(x, 0), ILLEGAL_STATE);
        cores(x, 0);
    }

    private static void count() {
        promise = "14 count";
        PackagePick x = chains();
        x.ban(5, 0, 6, 0);
        x.ban(5, 0, 6, 1);
        counts(x, 7, 3, 2, 1, 0, 0, 0);
        solve(x, 0);
        counts(x, 7, 3, 2, 1, 3, 0, 3);
        x.keep();
        x.ask(0, 0, 1);
        solve(x, 0);
        counts(x, 7, 3, 2, 2, 2, 3, 2);
        x.drop(0, 3);
        counts(x, 6, 1, 2, 2, 2, 3, 2);
        due("7", x.count(7), -1);
        due("-1", x.count(-1), -1);
        due("least", x.count(Integer.MIN_VALUE), -1);
        due("greatest", x.count(Integer.MAX_VALUE), -1);
    }

    private static int solve(PackagePick x, int aim) {
        try {
            return x.solve(aim);
        } catch (IllegalArgumentException e) {
            return ILLEGAL_ARGUMENT;
        } catch (IllegalStateException e) {
            return ILLEGAL_STATE;
        }
    }

    private static int core(PackagePick x, int i) {
        try {
            return x.core(i);
        } catch (NoSuchElementException e) {
            return NO_SUCH_ELEMENT;
        }
    }

    private static void cores(PackagePick x, int... want) {
        for (int i = 0; i < want.length; i++) {
            due("core(" + i + ")", core(x, i), want[i]);
        }
        int[] none = {want.length, 6, -1, Integer.MIN_VALUE, Integer.MAX_VALUE};
        for (int i : none) {
            due("core(" + i + ")", core(x, i), NO_SUCH_ELEMENT);
        }
    }

    private static void choice(PackagePick x, int... want) {
        for (int p = 0; p < want.length; p++) {
            due("chosen(" + p + ")", x.chosen(p), want[p]);
        }
    }

    private static void counts(PackagePick x, int... want) {
        for (int what = 0; what < want.length; what++) {
            due("count(" + what + ")", x.count(what), want[what]);
        }
    }

    private static void due(String call, boolean got, boolean want) {
        due(call, got ? 1 : 0, want ? 1 : 0);
    }

    private static void due(String call, int got, int want) {
        if (got != want) {
            wrong++;
            System.out.println("promise " + promise + ": " + call + " answered " + got + ", due is " + want);
        }
    }
}
