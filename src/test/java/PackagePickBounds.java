import java.util.NoSuchElementException;

/**
 * The boundary cases that the document's sentences name, one method for each, with answers worked
 * out by hand: the last values that are good, empty and full, and the edges of choices and aims.
 * Calls that are refused have their own tests in PackagePickRefused.
 */
public final class PackagePickBounds {
    private static final int ILLEGAL_ARGUMENT = -101;
    private static final int ILLEGAL_STATE = -102;
    private static final int NO_SUCH_ELEMENT = -103;
    private static final int[] CORNERS = {0, 0, 0, 3, 6, 0, 6, 3, 3, 1};

    private static int wrong = 0;
    private static String sentence = "";

    public static void main(String[] args) {
        terms();
        choices();
        aims();
        statePromises();
        solveAndKeepPromises();
        readingPromises();
        System.out.println(wrong == 0 ? "all bounds hold" : wrong + " answers are wrong");
        if (wrong != 0) {
            System.exit(1);
        }
    }

    private static void terms() {
        everyPackageAndVersionIsGood();
        everyRangeIsGood();
        aNeedIsMetFromAToB();
        aVersionHasAtMostFourNeeds();
        allVersionsHaveFourNeeds();
        atMostSixAreAsked();
        thereAreAtMostSixteenBans();
        aBanIsOfVersionsThereOrNot();
    }

    private static void choices() {
        nothingAskedIsOneEmptyChoice();
        onlyAVersionThatIsThere();
        allThatIsAskedIsMet();
        allNeedsOfTheChosenAreMet();
        needsOfOthersDoNotCount();
        noTwoOfABan();
        aBanTouchesOnlyItsTwo();
        noneIsThereForNothing();
        aNeedOfItselfIsNoReason();
        neededThroughAChainOfSix();
    }

    private static void aims() {
        aimZeroFirstThatDiffers();
        aimZeroNoVersionIsLeast();
        aimZeroLastPackageDecides();
        aimOneFewestThenAsAimZero();
        aimOneAmongEqualsNotByKept();
        aimTwoWithNothingKept();
        aimTwoCountsEachPackageOnce();
        aimTwoThenAsAimZero();
        aimTwoAmongEqualsNotByTheirSize();
        aimTwoByWhatIsKeptNotTold();
        aimTwoKeepsWhatIsNotThereAnyMore();
    }

    private static void statePromises() {
        aNewObjectHasNothing();
        objectsAreApart();
        aVersionComesWithoutNeeds();
        aNeedOfWhatIsNotThere();
        aNeedOfItsOwnPackage();
        dropTakesItsNeedsAlone();
        dropTakesTheRangesToo();
        dropLeavesBansAskedToldAndKept();
        dropAndComeBackManyTimes();
        aBanToldTwiceCountsTwice();
        askForWhatIsNotThere();
        takeFirstMiddleAndLast();
        takeMovesUpThoseBehind();
        takeMakesRoom();
    }

    private static void solveAndKeepPromises() {
        solveTellsNoneToSeven();
        solveTellsFromNowOn();
        aWrongAimComesBeforeNoChoice();
        withoutChoiceWhatWasToldStays();
        withoutChoiceAndNothingTold();
        keepNothing();
        keepNoneToSeven();
        keepStaysWhenOthersAreTold();
    }

    private static void readingPromises() {
        chosenFirstAndLastPackage();
        chosenFirstAndLastVersion();
        manyNoneOneAndMost();
        canNoneAllAndBoth();
        canIsOfNow();
        coreBeforeAnySolve();
        coreOfOne();
        coreOfAllSix();
        coreFewestBeforeFirst();
        coreFirstThatDiffersIsLess();
        coreByHowItWasThen();
        coreOfTheLatestAlone();
        countNothing();
        countMost();
        theLastCallIsGood();
    }

    // ---- Terms

    private static void everyPackageAndVersionIsGood() {
        sentence = "PACKAGES 0 .. 6 have VERSIONS 0 .. 3";
        for (int i = 0; i < CORNERS.length; i += 2) {
            int p = CORNERS[i];
            int v = CORNERS[i + 1];
            PackagePick x = new PackagePick();
            due("version", x.version(p, v), true);
            due("need", x.need(p, v, p, v, v), true);
            due("ban", x.ban(p, v, (p + 1) % 7, v), true);
            due("ban from behind", x.ban((p + 1) % 7, v, p, v), true);
            due("ask", x.ask(p, v, v), true);
            due("solve", solve(x, 0), 1);
            due("chosen", x.chosen(p), v);
            due("can", x.can(p), 1 << v);
            due("count", x.count(0), 1);
            due("drop", x.drop(p, v), true);
            due("count after drop", x.count(0), 0);
        }
    }

    private static void everyRangeIsGood() {
        sentence = "a not above b, both 0 .. 3";
        for (int a = 0; a < 4; a++) {
            for (int b = a; b < 4; b++) {
                int range = (2 << b) - (1 << a);
                PackagePick x = packageInAllVersions(0);
                due("ask", x.ask(0, a, b), true);
                due("can, asked", x.can(0), range);
                PackagePick y = packageInAllVersions(6);
                y.version(0, 0);
                due("need", y.need(0, 0, 6, a, b), true);
                y.ask(0, 0, 0);
                due("can, needed", y.can(6), range);
            }
        }
    }

    private static void aNeedIsMetFromAToB() {
        sentence = "it is MET if q is chosen with a VERSION from a to b";
        for (int v = 0; v < 4; v++) {
            PackagePick x = new PackagePick();
            x.version(3, v);
            x.ask(3, 1, 2);
            due("asked 1 to 2, there is " + v, x.many(), v == 1 || v == 2 ? 1 : 0);
            PackagePick y = new PackagePick();
            y.version(3, v);
            y.version(0, 0);
            y.need(0, 0, 3, 1, 2);
            y.ask(0, 0, 0);
            due("needed 1 to 2, there is " + v, y.many(), v == 1 || v == 2 ? 1 : 0);
        }
        PackagePick z = new PackagePick();
        z.ask(3, 0, 3);
        due("asked, none is there", z.many(), 0);
    }

    private static void aVersionHasAtMostFourNeeds() {
        sentence = "A VERSION that is there has NEEDS, at most 4";
        PackagePick x = new PackagePick();
        x.version(0, 0);
        x.version(0, 1);
        for (int i = 1; i <= 4; i++) {
            due("need " + i, x.need(0, 0, i, 0, 0), true);
            due("count", x.count(1), i);
        }
        due("need 5", x.need(0, 0, 5, 0, 0), false);
        due("count", x.count(1), 4);
        due("another version of it", x.need(0, 1, 5, 0, 0), true);
        for (int p = 1; p < 6; p++) {
            x.version(p, 0);
        }
        x.ask(0, 0, 0);
        due("all four hold, the fifth does not", solve(x, 0), 5);
        choice(x, 0, 0, 0, 0, 0, -1, -1);
        for (int p = 1; p < 5; p++) {
            x.drop(p, 0);
            due("need of " + p + " is one of the four", x.many(), 0);
            x.version(p, 0);
        }
        x.drop(5, 0);
        due("need of 5 is none", x.many(), 1);
    }

    private static void allVersionsHaveFourNeeds() {
        sentence = "A VERSION that is there has NEEDS, at most 4 (all of them)";
        PackagePick x = new PackagePick();
        for (int p = 0; p < 7; p++) {
            for (int v = 0; v < 4; v++) {
                x.version(p, v);
                for (int i = 0; i < 4; i++) {
                    due("need", x.need(p, v, 6 - p, 0, 3), true);
                }
            }
        }
        due("count", x.count(1), 112);
        x.drop(6, 3);
        due("count without one", x.count(1), 108);
        x.drop(0, 0);
        due("count without two", x.count(1), 104);
    }

    private static void atMostSixAreAsked() {
        sentence = "ASKED are NEEDS, too, at most 6";
        PackagePick x = packageInAllVersions(2);
        for (int i = 1; i <= 6; i++) {
            due("ask " + i, x.ask(2, i == 6 ? 2 : 1, 3), true);
            due("count", x.count(3), i);
        }
        due("the sixth counts", x.can(2), 12);
        due("ask 7", x.ask(2, 3, 3), false);
        due("count", x.count(3), 6);
        due("the seventh does not", x.can(2), 12);
    }

    private static void thereAreAtMostSixteenBans() {
        sentence = "there are at most 16";
        PackagePick x = packageInAllVersions(0);
        for (int v = 0; v < 4; v++) {
            x.version(6, v);
        }
        x.ask(0, 0, 3);
        x.ask(6, 0, 3);
        for (int i = 0; i < 16; i++) {
            due("choices", x.many(), 16 - i);
            due("ban " + i, x.ban(0, i / 4, 6, i % 4), true);
            due("count", x.count(2), i + 1);
        }
        due("all are banned", x.many(), 0);
        due("the 17th", x.ban(1, 0, 2, 0), false);
        due("count", x.count(2), 16);
        x.drop(0, 0);
        due("a drop takes no ban", x.ban(1, 0, 2, 0), false);
        x.take(1);
        x.take(0);
        x.version(1, 0);
        x.version(2, 0);
        x.ask(1, 0, 0);
        x.ask(2, 0, 0);
        due("the 17th does no harm", x.many(), 1);
    }

    private static void aBanIsOfVersionsThereOrNot() {
        sentence = "A BAN is of two VERSIONS of two packages (whether they are there or not)";
        PackagePick x = new PackagePick();
        due("neither is there", x.ban(1, 2, 4, 1), true);
        due("no version comes by it", x.count(0), 0);
        x.version(1, 2);
        x.ask(1, 2, 2);
        due("one is there", x.ban(1, 2, 4, 0), true);
        due("one alone is no harm", x.many(), 1);
        x.version(4, 1);
        x.ask(4, 0, 3);
        due("it holds when they come", x.many(), 0);
        x.drop(4, 1);
        x.version(4, 1);
        due("it holds when one comes back", x.many(), 0);
        x.version(4, 2);
        due("another version is free", x.many(), 1);
    }

    // ---- A CHOICE

    private static void nothingAskedIsOneEmptyChoice() {
        sentence = "A CHOICE: some packages (none)";
        PackagePick x = packageInAllVersions(0);
        x.need(0, 0, 5, 0, 0);
        x.ban(0, 0, 1, 0);
        due("many", x.many(), 1);
        due("can", x.can(0), 16);
        for (int aim = 0; aim < 3; aim++) {
            due("solve", solve(x, aim), 0);
        }
        choice(x, -1, -1, -1, -1, -1, -1, -1);
    }

    private static void onlyAVersionThatIsThere() {
        sentence = "each one with one VERSION that is there";
        PackagePick x = new PackagePick();
        x.version(5, 1);
        x.version(5, 2);
        x.ask(5, 0, 3);
        due("can", x.can(5), 6);
        due("one version at once", solve(x, 0), 1);
        x.drop(5, 2);
        solve(x, 0);
        due("the one that is left", x.chosen(5), 1);
        x.drop(5, 1);
        due("none is left", solve(x, 0), ILLEGAL_STATE);
    }

    private static void allThatIsAskedIsMet() {
        sentence = "so that all that is ASKED is MET";
        PackagePick x = packageInAllVersions(1);
        x.ask(1, 0, 2);
        x.ask(1, 2, 3);
        due("two that touch", x.can(1), 4);
        x.ask(1, 3, 3);
        due("three that do not", x.many(), 0);
        x.take(0);
        due("two again", x.can(1), 8);
    }

    private static void allNeedsOfTheChosenAreMet() {
        sentence = "all NEEDS of the chosen VERSIONS are MET";
        PackagePick x = packageInAllVersions(1);
        x.version(0, 0);
        x.ask(0, 0, 0);
        x.need(0, 0, 1, 0, 2);
        x.need(0, 0, 1, 1, 3);
        due("two of one package", x.can(1), 6);
        x.need(0, 0, 1, 2, 2);
        due("three", x.can(1), 4);
        x.ask(1, 2, 3);
        due("asked and needed", x.can(1), 4);
        x.need(0, 0, 1, 3, 3);
        due("four that hinder each other", x.many(), 0);
    }

    private static void needsOfOthersDoNotCount() {
        sentence = "all NEEDS of the chosen VERSIONS are MET (of others they need not be)";
        PackagePick x = new PackagePick();
        x.version(0, 0);
        x.version(0, 1);
        x.version(1, 0);
        x.need(0, 1, 6, 0, 3);
        x.need(1, 0, 6, 0, 3);
        x.ask(0, 0, 3);
        due("solve", solve(x, 0), 1);
        choice(x, 0, -1, -1, -1, -1, -1, -1);
        due("many", x.many(), 1);
    }

    private static void noTwoOfABan() {
        sentence = "no two are chosen of which there is a BAN";
        for (int turned = 0; turned < 2; turned++) {
            PackagePick x = new PackagePick();
            x.version(0, 0);
            x.version(6, 3);
            x.version(3, 1);
            x.need(0, 0, 3, 0, 3);
            x.ask(0, 0, 3);
            x.ask(6, 0, 3);
            due("before", solve(x, 0), 3);
            due("ban", turned == 0 ? x.ban(3, 1, 6, 3) : x.ban(6, 3, 3, 1), true);
            due("one needed, one asked", x.many(), 0);
            x.take(1);
            due("one alone", x.many(), 1);
        }
    }

    private static void aBanTouchesOnlyItsTwo() {
        sentence = "no two are chosen of which there is a BAN (other versions are free)";
        PackagePick x = packageInAllVersions(2);
        for (int v = 0; v < 4; v++) {
            x.version(3, v);
        }
        x.ask(2, 0, 3);
        x.ask(3, 0, 3);
        x.ban(2, 3, 3, 0);
        due("one pair less", x.many(), 15);
        due("each is still in some choice", x.can(2), 15);
        due("each is still in some choice", x.can(3), 15);
        x.take(1);
        x.ask(3, 0, 0);
        due("not with version 0", x.can(2), 7);
    }

    private static void noneIsThereForNothing() {
        sentence = "none is there for nothing";
        PackagePick x = new PackagePick();
        x.version(0, 0);
        x.version(1, 3);
        x.version(2, 3);
        x.need(1, 3, 2, 0, 3);
        x.need(2, 3, 1, 0, 3);
        x.need(1, 3, 0, 0, 3);
        x.ask(0, 0, 0);
        due("two that need each other, not asked", x.many(), 1);
        due("can", x.can(1), 16);
        due("can", x.can(2), 16);
        x.ask(2, 0, 3);
        due("one is asked", solve(x, 0), 3);
        x.version(0, 1);
        x.need(0, 0, 5, 0, 3);
        x.version(5, 0);
        x.take(1);
        x.take(0);
        x.ask(0, 1, 1);
        due("needed by a version that is not chosen", x.can(5), 16);
    }

    private static void aNeedOfItselfIsNoReason() {
        sentence = "one that a chosen VERSION needs of a package that is so (not of itself alone)";
        PackagePick x = new PackagePick();
        x.version(0, 0);
        x.need(0, 0, 0, 0, 0);
        due("nothing asked", x.many(), 1);
        due("can", x.can(0), 16);
        x.version(1, 0);
        x.ask(1, 0, 0);
        due("another one asked", x.can(0), 16);
        due("it is asked", x.ask(0, 0, 0), true);
        due("can", x.can(0), 1);
    }

    private static void neededThroughAChainOfSix() {
        sentence = "and so on";
        for (int up = 0; up < 2; up++) {
            PackagePick x = new PackagePick();
            for (int p = 0; p < 7; p++) {
                int next = up == 1 ? p + 1 : p - 1;
                x.version(p, 3);
                x.need(p, 3, next, 3, 3);
            }
            due("only good needs", x.count(1), 6);
            x.ask(up == 1 ? 0 : 6, 3, 3);
            due("all seven", solve(x, 0), 7);
            choice(x, 3, 3, 3, 3, 3, 3, 3);
            x.drop(3, 3);
            due("a broken chain", x.many(), 0);
        }
    }

    // ---- The BEST

    private static void aimZeroFirstThatDiffers() {
        sentence = "the first package (from 0 on) that differs has the greater VERSION";
        PackagePick x = new PackagePick();
        for (int p = 0; p < 3; p++) {
            x.version(p, 0);
            x.version(p, 1);
        }
        x.version(0, 2);
        x.ask(0, 0, 3);
        x.ask(1, 0, 3);
        x.ask(2, 0, 3);
        x.ban(0, 2, 1, 1);
        x.ban(0, 2, 2, 1);
        x.ban(1, 0, 2, 0);
        due("(2, 0, 0) is banned, so is (2, 0, 1)", solve(x, 0), 3);
        choice(x, 1, 1, 1, -1, -1, -1, -1);
        x.version(1, 2);
        due("(2, 2, 0) before (1, 2, 1)", solve(x, 0), 3);
        choice(x, 2, 2, 0, -1, -1, -1, -1);
    }

    private static void aimZeroNoVersionIsLeast() {
        sentence = "no VERSION counts less than all";
        PackagePick x = new PackagePick();
        x.version(0, 0);
        x.version(1, 0);
        x.version(1, 3);
        x.need(1, 0, 0, 0, 0);
        x.ask(1, 0, 3);
        due("version 0 of package 0 before none", solve(x, 0), 2);
        choice(x, 0, 0, -1, -1, -1, -1, -1);
    }

    private static void aimZeroLastPackageDecides() {
        sentence = "the first package (from 0 on) that differs (the last one)";
        PackagePick x = new PackagePick();
        x.version(0, 1);
        x.version(6, 0);
        x.version(6, 2);
        x.ask(0, 0, 3);
        x.ask(6, 0, 3);
        for (int aim = 0; aim < 3; aim++) {
            due("solve", solve(x, aim), 2);
            choice(x, 1, -1, -1, -1, -1, -1, 2);
        }
    }

    private static void aimOneFewestThenAsAimZero() {
        sentence = "AIM 1: one with the fewest packages, of these as by AIM 0";
        PackagePick x = new PackagePick();
        for (int v = 0; v < 4; v++) {
            x.version(6, v);
        }
        x.version(0, 3);
        x.version(1, 0);
        x.version(2, 3);
        x.need(6, 3, 0, 0, 3);
        x.need(6, 3, 2, 0, 3);
        x.need(6, 2, 2, 0, 3);
        x.need(6, 1, 1, 0, 3);
        x.need(6, 0, 2, 0, 3);
        x.ask(6, 0, 3);
        due("aim 0", solve(x, 0), 3);
        choice(x, 3, -1, 3, -1, -1, -1, 3);
        due("aim 1, package 1 before package 2", solve(x, 1), 2);
        choice(x, -1, 0, -1, -1, -1, -1, 1);
        x.drop(1, 0);
        due("aim 1, then the greater version", solve(x, 1), 2);
        choice(x, -1, -1, 3, -1, -1, -1, 2);
    }

    private static void aimOneAmongEqualsNotByKept() {
        sentence = "AIM 1: of these as by AIM 0, whatever is KEPT";
        PackagePick x = new PackagePick();
        x.version(3, 1);
        x.ask(3, 0, 3);
        solve(x, 0);
        x.keep();
        x.version(3, 0);
        x.version(3, 2);
        due("aim 2", solve(x, 2), 1);
        due("as it is kept", x.chosen(3), 1);
        for (int aim = 0; aim < 2; aim++) {
            due("aims 0 and 1", solve(x, aim), 1);
            due("the greatest version", x.chosen(3), 2);
        }
    }

    private static void aimTwoWithNothingKept() {
        sentence = "AIM 2: what is KEPT (no package is chosen in it)";
        PackagePick x = new PackagePick();
        x.version(0, 3);
        x.version(0, 0);
        x.version(1, 0);
        x.need(0, 3, 1, 0, 0);
        x.ask(0, 0, 3);
        due("as aim 1", solve(x, 2), 1);
        choice(x, 0, -1, -1, -1, -1, -1, -1);
    }

    private static void aimTwoCountsEachPackageOnce() {
        sentence = "each package: whether it is chosen, and its VERSION";
        PackagePick x = new PackagePick();
        x.version(0, 0);
        x.version(1, 0);
        x.ask(0, 0, 3);
        x.ask(1, 0, 3);
        solve(x, 0);
        due("two are chosen that were not", x.keep(), 2);
        x.version(0, 3);
        x.version(1, 3);
        x.ban(0, 0, 1, 0);
        x.version(2, 0);
        x.need(0, 3, 2, 0, 0);
        due("one other version", solve(x, 2), 2);
        choice(x, 0, 3, -1, -1, -1, -1, -1);
        due("is one package that is otherwise", x.count(6), 1);
        x.take(1);
        due("package 1 is left out, 0 stays", solve(x, 2), 1);
        choice(x, 0, -1, -1, -1, -1, -1, -1);
        due("one that is not chosen", x.count(6), 1);
    }

    private static void aimTwoThenAsAimZero() {
        sentence = "AIM 2: of these as by AIM 0";
        PackagePick x = new PackagePick();
        x.version(0, 0);
        x.version(1, 0);
        x.ask(0, 0, 3);
        x.ask(1, 0, 3);
        solve(x, 0);
        x.keep();
        x.ban(0, 0, 1, 0);
        x.version(0, 1);
        x.version(1, 3);
        x.version(0, 2);
        due("one of the two is otherwise", solve(x, 2), 2);
        choice(x, 2, 0, -1, -1, -1, -1, -1);
        due("count", x.count(6), 1);
    }

    private static void aimTwoAmongEqualsNotByTheirSize() {
        sentence = "AIM 2: of these as by AIM 0, however many packages they have";
        PackagePick x = oneMoreOrOneLess(4, 5, 6);
        due("two choices", x.many(), 2);
        due("package 4 is chosen rather than not", solve(x, 2), 3);
        choice(x, -1, -1, -1, -1, 0, 0, 1);
        due("two are otherwise", x.count(6), 2);
        due("the fewest", solve(x, 1), 1);
        choice(x, -1, -1, -1, -1, -1, -1, 2);
        due("two are otherwise, too", x.count(6), 2);
        PackagePick y = oneMoreOrOneLess(4, 3, 1);
        due("package 1 has the greater version", solve(y, 2), 1);
        choice(y, -1, 2, -1, -1, -1, -1, -1);
    }

    /** Kept are packages stays and asked; now asked takes one more in version 1, or none in 2. */
    private static PackagePick oneMoreOrOneLess(int more, int stays, int asked) {
        PackagePick x = new PackagePick();
        x.version(more, 0);
        x.version(stays, 0);
        x.version(asked, 0);
        x.need(asked, 0, stays, 0, 0);
        x.ask(asked, 0, 3);
        solve(x, 0);
        x.keep();
        x.drop(asked, 0);
        x.version(asked, 1);
        x.need(asked, 1, stays, 0, 0);
        x.need(asked, 1, more, 0, 0);
        x.version(asked, 2);
        return x;
    }

    private static void aimTwoByWhatIsKeptNotTold() {
        sentence = "otherwise than in what is KEPT (not told)";
        PackagePick x = packageInAllVersions(4);
        x.ask(4, 1, 1);
        solve(x, 0);
        x.keep();
        x.take(0);
        x.ask(4, 0, 3);
        solve(x, 0);
        due("told", x.chosen(4), 3);
        solve(x, 2);
        due("kept", x.chosen(4), 1);
    }

    private static void aimTwoKeepsWhatIsNotThereAnyMore() {
        sentence = "what is KEPT (its version is not there any more)";
        PackagePick x = new PackagePick();
        x.version(0, 1);
        x.version(1, 0);
        x.ask(0, 0, 3);
        solve(x, 0);
        x.keep();
        x.drop(0, 1);
        x.version(0, 0);
        x.version(0, 3);
        x.need(0, 3, 1, 0, 0);
        due("the kept one cannot be", solve(x, 2), 1);
        choice(x, 0, -1, -1, -1, -1, -1, -1);
        due("still kept", x.count(5), 1);
        x.version(0, 1);
        due("there again", solve(x, 2), 1);
        choice(x, 1, -1, -1, -1, -1, -1, -1);
        due("as kept", x.count(6), 0);
    }

    // ---- Promises 1 to 7

    private static void aNewObjectHasNothing() {
        sentence = "Nothing is there, ASKED, banned, KEPT (no package is chosen in it) or told";
        PackagePick x = new PackagePick();
        counts(x, 0, 0, 0, 0, 0, 0, 0);
        choice(x, -1, -1, -1, -1, -1, -1, -1);
        for (int p = 0; p < 7; p++) {
            due("can", x.can(p), 16);
            for (int v = 0; v < 4; v++) {
                due("drop", x.drop(p, v), false);
            }
        }
        cores(x);
        due("take", x.take(0), false);
        due("keep", x.keep(), 0);
        due("many", x.many(), 1);
        counts(x, 0, 0, 0, 0, 0, 0, 0);
    }

    private static void objectsAreApart() {
        sentence = "A new object (beside others)";
        PackagePick x = new PackagePick();
        PackagePick y = new PackagePick();
        x.version(0, 0);
        x.need(0, 0, 0, 0, 0);
        x.ban(0, 0, 1, 0);
        x.ask(0, 0, 0);
        x.solve(0);
        x.keep();
        x.ask(1, 0, 0);
        solve(x, 0);
        PackagePick z = new PackagePick();
        counts(x, 1, 1, 1, 2, 1, 1, 0);
        cores(x, 1);
        counts(y, 0, 0, 0, 0, 0, 0, 0);
        cores(y);
        counts(z, 0, 0, 0, 0, 0, 0, 0);
        cores(z);
    }

    private static void aVersionComesWithoutNeeds() {
        sentence = "A VERSION is there, without NEEDS";
        PackagePick x = new PackagePick();
        due("first", x.version(4, 2), true);
        due("needs", x.count(1), 0);
        x.need(4, 2, 6, 0, 3);
        due("again", x.version(4, 2), false);
        due("its need is there", x.count(1), 1);
        x.drop(4, 2);
        due("after a drop", x.version(4, 2), true);
        due("needs", x.count(1), 0);
        x.ask(4, 2, 2);
        due("it needs nothing", solve(x, 0), 1);
        for (int i = 0; i < 4; i++) {
            due("room for four", x.need(4, 2, 4, 0, 3), true);
        }
        due("and no more", x.need(4, 2, 4, 0, 3), false);
    }

    private static void aNeedOfWhatIsNotThere() {
        sentence = "One NEED more of a VERSION: true (what it needs is not there)";
        PackagePick x = new PackagePick();
        x.version(0, 0);
        x.ask(0, 0, 0);
        due("need", x.need(0, 0, 6, 3, 3), true);
        due("no choice yet", x.many(), 0);
        x.version(6, 2);
        due("not by another version", x.many(), 0);
        x.version(6, 3);
        due("a choice now", x.many(), 1);
    }

    private static void aNeedOfItsOwnPackage() {
        sentence = "(q may be p.)";
        PackagePick x = packageInAllVersions(5);
        x.ask(5, 0, 3);
        due("met below", x.need(5, 2, 5, 0, 2), true);
        due("met above", x.need(5, 2, 5, 2, 3), true);
        due("can", x.can(5), 15);
        due("not met below", x.need(5, 3, 5, 0, 2), true);
        due("can", x.can(5), 7);
        due("not met above", x.need(5, 0, 5, 1, 3), true);
        due("can", x.can(5), 6);
        due("one is left", solve(x, 0), 1);
        due("chosen", x.chosen(5), 2);
    }

    private static void dropTakesItsNeedsAlone() {
        sentence = "A VERSION is not there any more (nor its NEEDS)";
        PackagePick x = new PackagePick();
        x.version(2, 0);
        x.version(2, 1);
        x.version(3, 0);
        for (int i = 0; i < 4; i++) {
            x.need(2, 0, 3, 0, 3);
        }
        x.need(2, 1, 3, 0, 0);
        x.need(3, 0, 2, 0, 0);
        due("drop", x.drop(2, 0), true);
        counts(x, 2, 2, 0, 0, 0, 0, 0);
        due("drop again", x.drop(2, 0), false);
        x.ask(3, 0, 0);
        due("a need of it stays", x.many(), 0);
        due("it has no needs now", x.need(2, 0, 3, 0, 3), false);
        x.version(2, 0);
        due("it comes back", x.many(), 1);
        due("the last", x.drop(3, 0), true);
        due("its need", x.count(1), 1);
    }

    private static void dropTakesTheRangesToo() {
        sentence = "(nor its NEEDS): nothing is left of their ranges";
        PackagePick x = packageInAllVersions(6);
        x.version(0, 3);
        x.ask(0, 0, 3);
        x.need(0, 3, 6, 0, 0);
        x.need(0, 3, 0, 0, 2);
        x.drop(0, 3);
        x.version(0, 3);
        due("it does not need 6", x.can(6), 16);
        x.need(0, 3, 6, 1, 3);
        due("it needs 6 in another range", x.can(6), 14);
        x.drop(0, 3);
        x.version(0, 3);
        x.ask(6, 0, 3);
        due("6 is free", x.can(6), 15);
    }

    private static void dropLeavesBansAskedToldAndKept() {
        sentence = "drop: A VERSION is not there any more (and nothing else changes)";
        PackagePick x = new PackagePick();
        x.version(0, 2);
        x.ban(0, 2, 1, 0);
        x.ask(0, 0, 3);
        solve(x, 0);
        x.keep();
        x.ask(1, 0, 0);
        solve(x, 0);
        due("drop", x.drop(0, 2), true);
        counts(x, 0, 0, 1, 2, 1, 1, 0);
        choice(x, 2, -1, -1, -1, -1, -1, -1);
        cores(x, 1);
        due("kept as told", x.keep(), 0);
    }

    private static void dropAndComeBackManyTimes() {
        sentence = "version and drop, again and again";
        PackagePick x = new PackagePick();
        for (int round = 0; round < 40; round++) {
            due("version", x.version(6, 3), true);
            due("need", x.need(6, 3, 6, 3, 3), true);
            due("count", x.count(1), 1);
            due("drop", x.drop(6, 3), true);
            due("count", x.count(0), 0);
        }
        due("needs", x.count(1), 0);
    }

    private static void aBanToldTwiceCountsTwice() {
        sentence = "A BAN: true; false .. if there are no such VERSIONS, both are of one package, or there are 16";
        PackagePick x = new PackagePick();
        for (int i = 0; i < 16; i++) {
            due("the same", i % 2 == 0 ? x.ban(0, 3, 6, 0) : x.ban(6, 0, 0, 3), true);
            due("count", x.count(2), i + 1);
        }
        due("the 17th", x.ban(0, 3, 6, 0), false);
        due("the 17th, another one", x.ban(0, 0, 6, 0), false);
        due("count", x.count(2), 16);
        x.version(0, 0);
        x.version(0, 3);
        x.version(6, 0);
        x.ask(0, 0, 3);
        x.ask(6, 0, 3);
        due("one pair is banned", x.can(0), 1);
    }

    private static void askForWhatIsNotThere() {
        sentence = "One NEED more is ASKED: true (what is asked is not there)";
        PackagePick x = new PackagePick();
        due("ask", x.ask(6, 3, 3), true);
        due("count", x.count(3), 1);
        due("no choice", x.many(), 0);
        x.version(6, 3);
        due("a choice now", x.many(), 1);
    }

    private static void takeFirstMiddleAndLast() {
        sentence = "ASKED NEED i (from 0 on) is not ASKED any more";
        int[] taken = {0, 2, 5};
        for (int i : taken) {
            PackagePick x = sixAsked();
            due("all", solve(x, 0), 6);
            due("take(" + i + ")", x.take(i), true);
            due("count", x.count(3), 5);
            due("solve", solve(x, 0), 5);
            for (int p = 0; p < 6; p++) {
                due("chosen(" + p + ") without " + i, x.chosen(p), p == i ? -1 : 0);
            }
        }
        PackagePick y = sixAsked();
        for (int i = 5; i >= 0; i--) {
            due("the one behind the last", y.take(i + 1), false);
            due("the last", y.take(i), true);
        }
        due("empty", y.take(0), false);
        due("count", y.count(3), 0);
        due("nothing is asked", solve(y, 0), 0);
    }

    private static void takeMovesUpThoseBehind() {
        sentence = "(those behind it move up)";
        PackagePick x = new PackagePick();
        for (int p = 0; p < 5; p++) {
            x.version(p, p % 4);
            x.ask(p, 0, 3);
        }
        x.ask(5, 1, 2);
        solve(x, 0);
        cores(x, 5);
        for (int last = 4; last >= 0; last--) {
            due("take the first", x.take(0), true);
            due("no choice", solve(x, 0), ILLEGAL_STATE);
            cores(x, last);
        }
        x.version(5, 0);
        x.version(5, 3);
        due("its range moved up too", x.many(), 0);
        x.version(5, 1);
        x.version(5, 2);
        due("its range moved up too", x.can(5), 6);
    }

    private static void takeMakesRoom() {
        sentence = "ask: false .. if there are 6 (one is taken)";
        PackagePick x = sixAsked();
        due("full", x.ask(6, 0, 0), false);
        due("take", x.take(3), true);
        due("room for one", x.ask(6, 0, 0), true);
        due("full again", x.ask(6, 0, 0), false);
        due("it is the last one", solve(x, 0), ILLEGAL_STATE);
        cores(x, 5);
        x.version(6, 0);
        due("six", solve(x, 0), 6);
        choice(x, 0, 0, 0, -1, 0, 0, 0);
    }

    // ---- Promises 8 and 9

    private static void solveTellsNoneToSeven() {
        sentence = "how many packages are chosen";
        PackagePick x = new PackagePick();
        due("none", solve(x, 0), 0);
        x.version(6, 0);
        for (int p = 0; p < 6; p++) {
            x.version(p, 0);
            x.ask(p, 0, 0);
            for (int aim = 0; aim < 3; aim++) {
                due("solve", solve(x, aim), p + 1);
                due("count", x.count(4), p + 1);
            }
        }
        x.need(5, 0, 6, 0, 0);
        for (int aim = 0; aim < 3; aim++) {
            due("all seven", solve(x, aim), 7);
        }
        due("count", x.count(4), 7);
    }

    private static void solveTellsFromNowOn() {
        sentence = "The BEST CHOICE is told from now on";
        PackagePick x = packageInAllVersions(0);
        x.ask(0, 0, 2);
        due("before", x.chosen(0), -1);
        due("solve", solve(x, 0), 1);
        x.take(0);
        x.drop(0, 2);
        x.many();
        x.can(0);
        due("later", x.chosen(0), 2);
        due("nothing is asked", solve(x, 0), 0);
        due("an empty one is told", x.chosen(0), -1);
    }

    private static void aWrongAimComesBeforeNoChoice() {
        sentence = "IllegalArgumentException: there is no such AIM";
        PackagePick x = packageInAllVersions(0);
        x.ask(0, 0, 3);
        x.solve(0);
        for (int round = 0; round < 2; round++) {
            due("first below", solve(x, -1), ILLEGAL_ARGUMENT);
            due("first above", solve(x, 3), ILLEGAL_ARGUMENT);
            due("least", solve(x, Integer.MIN_VALUE), ILLEGAL_ARGUMENT);
            due("greatest", solve(x, Integer.MAX_VALUE), ILLEGAL_ARGUMENT);
            cores(x);
            due("told", x.chosen(0), 3);
            x.ask(1, 0, 0);
        }
    }

    private static void withoutChoiceWhatWasToldStays() {
        sentence = "the CHOICE that was told stays";
        PackagePick x = packageInAllVersions(3);
        x.ask(3, 0, 3);
        x.ask(3, 0, 1);
        solve(x, 0);
        x.keep();
        x.take(1);
        solve(x, 0);
        x.ask(0, 0, 0);
        for (int aim = 0; aim < 3; aim++) {
            due("solve(" + aim + ")", solve(x, aim), ILLEGAL_STATE);
            choice(x, -1, -1, -1, 3, -1, -1, -1);
            counts(x, 4, 0, 0, 2, 1, 1, 1);
            cores(x, 1);
        }
    }

    private static void withoutChoiceAndNothingTold() {
        sentence = "IllegalStateException: there is no CHOICE (and none was told)";
        PackagePick x = new PackagePick();
        x.ask(0, 0, 3);
        due("solve", solve(x, 1), ILLEGAL_STATE);
        choice(x, -1, -1, -1, -1, -1, -1, -1);
        counts(x, 0, 0, 0, 1, 0, 0, 0);
        cores(x, 0);
        due("keep", x.keep(), 0);
    }

    private static void keepNothing() {
        sentence = "keep: how many packages are otherwise than before (none)";
        PackagePick x = packageInAllVersions(0);
        due("nothing told", x.keep(), 0);
        x.ask(0, 0, 3);
        due("asked, not told", x.keep(), 0);
        solve(x, 0);
        due("told", x.keep(), 1);
        due("again", x.keep(), 0);
        solve(x, 0);
        due("the same told again", x.keep(), 0);
        due("count", x.count(5), 1);
    }

    private static void keepNoneToSeven() {
        sentence = "keep: how many packages are otherwise than before (all)";
        PackagePick x = new PackagePick();
        for (int p = 0; p < 7; p++) {
            x.version(p, 1);
            x.need(p, 1, (p + 1) % 7, 0, 3);
        }
        x.ask(0, 0, 3);
        solve(x, 0);
        counts(x, 7, 7, 0, 1, 7, 0, 7);
        due("seven that were not", x.keep(), 7);
        counts(x, 7, 7, 0, 1, 7, 7, 0);
        for (int p = 0; p < 7; p++) {
            x.drop(p, 1);
            x.version(p, 2);
            x.need(p, 2, (p + 1) % 7, 0, 3);
        }
        solve(x, 0);
        due("seven in another version", x.keep(), 7);
        x.take(0);
        solve(x, 0);
        counts(x, 7, 7, 0, 0, 0, 7, 7);
        due("seven left out", x.keep(), 7);
        counts(x, 7, 7, 0, 0, 0, 0, 0);
    }

    private static void keepStaysWhenOthersAreTold() {
        sentence = "The CHOICE that is told is KEPT (a later one is not)";
        PackagePick x = packageInAllVersions(2);
        x.version(4, 0);
        x.ask(2, 0, 3);
        solve(x, 0);
        x.keep();
        x.ask(4, 0, 0);
        x.ask(2, 0, 1);
        due("solve", solve(x, 0), 2);
        due("kept", x.count(5), 1);
        due("one otherwise, one new", x.count(6), 2);
        due("keep", x.keep(), 2);
        due("kept", x.count(5), 2);
    }

    // ---- Promises 10 to 14

    private static void chosenFirstAndLastPackage() {
        sentence = "chosen: NONE without, or if there is no such package";
        PackagePick x = new PackagePick();
        x.version(0, 3);
        x.version(6, 0);
        x.ask(0, 0, 3);
        x.ask(6, 0, 3);
        due("not told yet", x.chosen(0), -1);
        solve(x, 0);
        due("first", x.chosen(0), 3);
        due("without", x.chosen(1), -1);
        due("without", x.chosen(5), -1);
        due("last", x.chosen(6), 0);
        due("first below", x.chosen(-1), -1);
        due("first above", x.chosen(7), -1);
        due("least", x.chosen(Integer.MIN_VALUE), -1);
        due("greatest", x.chosen(Integer.MAX_VALUE), -1);
    }

    private static void chosenFirstAndLastVersion() {
        sentence = "The VERSION of a package in the CHOICE that is told";
        for (int p = 0; p < 7; p++) {
            PackagePick x = packageInAllVersions(p);
            for (int v = 0; v < 4; v++) {
                x.ask(p, v, v);
                solve(x, 0);
                due("chosen(" + p + ")", x.chosen(p), v);
                x.take(0);
            }
        }
    }

    private static void manyNoneOneAndMost() {
        sentence = "How many CHOICES there are now";
        PackagePick x = new PackagePick();
        due("nothing asked", x.many(), 1);
        for (int p = 0; p < 7; p++) {
            for (int v = 0; v < 4; v++) {
                x.version(p, v);
                x.need(p, v, (p + 1) % 7, 0, 3);
            }
        }
        due("nothing asked", x.many(), 1);
        x.ask(3, 0, 3);
        due("four to the seventh", x.many(), 16384);
        x.ban(0, 0, 6, 0);
        due("without one pair", x.many(), 15360);
        x.ask(3, 3, 3);
        due("of one version", x.many(), 3840);
        x.ask(3, 0, 2);
        due("none", x.many(), 0);
    }

    private static void canNoneAllAndBoth() {
        sentence = "As bits: v is 1 (16) if package p has VERSION v (none) in some CHOICE of now";
        PackagePick x = packageInAllVersions(6);
        x.version(0, 0);
        due("without alone", x.can(6), 16);
        x.ask(0, 0, 3);
        due("not for nothing", x.can(6), 16);
        x.need(0, 0, 6, 0, 3);
        due("every version", x.can(6), 15);
        x.version(0, 1);
        due("every version, and without", x.can(6), 31);
        x.version(0, 2);
        x.need(0, 2, 6, 1, 1);
        due("without in a choice between others", x.can(6), 31);
        x.ask(6, 3, 3);
        due("the last version alone", x.can(6), 8);
        due("the other package", x.can(0), 3);
        x.ask(6, 0, 2);
        for (int p = 0; p < 7; p++) {
            due("no choice", x.can(p), 0);
        }
        due("first below", x.can(-1), -1);
        due("first above", x.can(7), -1);
    }

    private static void canIsOfNow() {
        sentence = "in some CHOICE of now (not of what is told or kept)";
        PackagePick x = packageInAllVersions(0);
        x.ask(0, 0, 1);
        solve(x, 0);
        x.keep();
        x.take(0);
        due("nothing asked now", x.can(0), 16);
        x.ask(0, 2, 3);
        due("others are asked now", x.can(0), 12);
        due("told", x.chosen(0), 1);
    }

    private static void coreBeforeAnySolve() {
        sentence = "Of the latest solve() without a CHOICE (there is none)";
        PackagePick x = new PackagePick();
        cores(x);
        due("solve with a choice", solve(x, 0), 0);
        cores(x);
        x.ask(0, 0, 0);
        due("no choice", x.many(), 0);
        due("no choice", x.can(0), 0);
        cores(x);
    }

    private static void coreOfOne() {
        sentence = "core: the fewest of them (one)";
        for (int i = 0; i < 6; i++) {
            PackagePick x = sixAsked();
            x.drop(i, 0);
            due("solve", solve(x, 0), ILLEGAL_STATE);
            cores(x, i);
        }
        PackagePick y = sixAsked();
        y.drop(5, 0);
        y.drop(2, 0);
        due("solve", solve(y, 0), ILLEGAL_STATE);
        cores(y, 2);
    }

    private static void coreOfAllSix() {
        sentence = "core: the fewest of them (all six)";
        PackagePick x = allSixHinder();
        due("solve", solve(x, 0), ILLEGAL_STATE);
        cores(x, 0, 1, 2, 3, 4, 5);
        for (int i = 0; i < 6; i++) {
            PackagePick five = allSixHinder();
            due("take", five.take(i), true);
            due("without " + i + " there is a choice", solve(five, 0) > 0, true);
            cores(five);
        }
        due("a fifth version for package 6 cannot be", x.version(6, 4), false);
        x.drop(5, 0);
        x.version(5, 0);
        due("package 5 needs nothing now", solve(x, 0), 6);
        cores(x, 0, 1, 2, 3, 4, 5);
    }

    /**
     * Packages 0 to 3 leave no version of package 6, which version 0 of package 5 needs; and package
     * 4 does not go with version 1 of package 5.
     */
    private static PackagePick allSixHinder() {
        PackagePick x = sixAsked();
        for (int v = 0; v < 4; v++) {
            x.version(6, v);
            x.ban(v, 0, 6, v);
        }
        x.version(5, 1);
        x.need(5, 0, 6, 0, 3);
        x.ban(4, 0, 5, 1);
        return x;
    }

    private static void coreFewestBeforeFirst() {
        sentence = "core: the fewest of them for which alone there is no CHOICE";
        PackagePick x = packageInAllVersions(0);
        x.version(1, 0);
        x.ask(0, 0, 2);
        x.ask(0, 1, 3);
        x.ask(0, 0, 3);
        due("a choice", solve(x, 0), 1);
        x.ask(0, 0, 0);
        due("1 and 3", solve(x, 0), ILLEGAL_STATE);
        cores(x, 1, 3);
        x.ask(1, 1, 1);
        due("4 alone", solve(x, 0), ILLEGAL_STATE);
        cores(x, 4);
        x.version(1, 1);
        due("1 and 3 again", solve(x, 0), ILLEGAL_STATE);
        cores(x, 1, 3);
    }

    private static void coreFirstThatDiffersIsLess() {
        sentence = "of several such sets the one in which the first that differs is less";
        PackagePick x = new PackagePick();
        for (int p = 0; p < 6; p++) {
            x.version(p, 0);
            x.ask(p, 0, 0);
        }
        x.ban(4, 0, 5, 0);
        solve(x, 0);
        cores(x, 4, 5);
        x.ban(2, 0, 3, 0);
        solve(x, 0);
        cores(x, 2, 3);
        x.ban(1, 0, 5, 0);
        solve(x, 0);
        cores(x, 1, 5);
        x.ban(1, 0, 2, 0);
        solve(x, 0);
        cores(x, 1, 2);
        x.ban(0, 0, 5, 0);
        solve(x, 0);
        cores(x, 0, 5);
        x.ban(0, 0, 3, 0);
        solve(x, 0);
        cores(x, 0, 3);
        x.ban(0, 0, 1, 0);
        solve(x, 0);
        cores(x, 0, 1);
    }

    private static void coreByHowItWasThen() {
        sentence = "core: by how it was then";
        PackagePick x = sixAsked();
        x.ban(3, 0, 5, 0);
        due("solve", solve(x, 2), ILLEGAL_STATE);
        cores(x, 3, 5);
        x.take(5);
        x.take(0);
        cores(x, 3, 5);
        x.ban(0, 0, 1, 0);
        x.drop(2, 0);
        cores(x, 3, 5);
        x.many();
        x.can(3);
        x.keep();
        due("a wrong aim", solve(x, 3), ILLEGAL_ARGUMENT);
        cores(x, 3, 5);
        for (int left = 3; left >= 0; left--) {
            due("take", x.take(0), true);
            due("left", x.count(3), left);
            cores(x, 3, 5);
        }
        due("a choice", solve(x, 0), 0);
        cores(x, 3, 5);
    }

    private static void coreOfTheLatestAlone() {
        sentence = "Of the latest solve() without a CHOICE";
        PackagePick x = sixAsked();
        x.ban(0, 0, 1, 0);
        solve(x, 0);
        cores(x, 0, 1);
        x.drop(4, 0);
        solve(x, 1);
        cores(x, 4);
        x.version(4, 0);
        x.take(0);
        due("a choice", solve(x, 0), 5);
        cores(x, 4);
        x.ban(2, 0, 3, 0);
        solve(x, 2);
        cores(x, 1, 2);
    }

    private static void countNothing() {
        sentence = "count: NONE for another what";
        PackagePick x = new PackagePick();
        due("first below", x.count(-1), -1);
        for (int what = 0; what < 7; what++) {
            due("count(" + what + ")", x.count(what), 0);
        }
        due("first above", x.count(7), -1);
        due("least", x.count(Integer.MIN_VALUE), -1);
        due("greatest", x.count(Integer.MAX_VALUE), -1);
    }

    private static void countMost() {
        sentence = "count: the most of each";
        PackagePick x = new PackagePick();
        for (int p = 0; p < 7; p++) {
            for (int v = 0; v < 4; v++) {
                x.version(p, v);
                for (int i = 0; i < 4; i++) {
                    x.need(p, v, (p + 1) % 7, 0, 3);
                }
            }
        }
        for (int i = 0; i < 16; i++) {
            x.ban(0, 0, 1, 0);
        }
        for (int i = 0; i < 6; i++) {
            x.ask(0, 0, 3);
        }
        counts(x, 28, 112, 16, 6, 0, 0, 0);
        due("solve", solve(x, 2), 7);
        counts(x, 28, 112, 16, 6, 7, 0, 7);
        due("keep", x.keep(), 7);
        counts(x, 28, 112, 16, 6, 7, 7, 0);
    }

    private static void theLastCallIsGood() {
        sentence = "An object is used for at most 512 calls";
        PackagePick x = new PackagePick();
        for (int i = 0; i < 101; i++) {
            due("version", x.version(0, 1), true);
            due("ask", x.ask(0, 0, 3), true);
            due("solve", solve(x, i % 3), 1);
            due("take", x.take(0), true);
            due("drop", x.drop(0, 1), true);
        }
        due("call 506", x.ask(6, 0, 0), true);
        due("call 507", solve(x, 0), ILLEGAL_STATE);
        due("call 508", core(x, 0), 0);
        due("call 509", x.keep(), 1);
        due("call 510", x.version(6, 0), true);
        due("call 511", solve(x, 2), 1);
        due("call 512", x.count(6), 2);
    }

    // ---- Objects

    private static PackagePick packageInAllVersions(int p) {
        PackagePick x = new PackagePick();
        for (int v = 0; v < 4; v++) {
            x.version(p, v);
        }
        return x;
    }

    /** Asked need i is package i, which has version 0 alone. */
    private static PackagePick sixAsked() {
        PackagePick x = new PackagePick();
        for (int p = 0; p < 6; p++) {
            x.version(p, 0);
            x.ask(p, 0, 3);
        }
        return x;
    }

    // ---- What is due

    private static int solve(PackagePick x, int aim) {
        try {
            return x.solve(aim);
        } catch (IllegalArgumentException e) {
            return ILLEGAL_ARGUMENT;
        } catch (IllegalStateException e) {
            return ILLEGAL_STATE;
        }
    }

    private static int core(PackagePick x, int i) {
        try {
            return x.core(i);
        } catch (NoSuchElementException e) {
            return NO_SUCH_ELEMENT;
        }
    }

    private static void cores(PackagePick x, int... want) {
        for (int i = 0; i < want.length; i++) {
            due("core(" + i + ")", core(x, i), want[i]);
        }
        int[] none = {want.length, -1, Integer.MIN_VALUE, Integer.MAX_VALUE};
        for (int i : none) {
            due("core(" + i + ")", core(x, i), NO_SUCH_ELEMENT);
        }
    }

    private static void choice(PackagePick x, int... want) {
        for (int p = 0; p < want.length; p++) {
            due("chosen(" + p + ")", x.chosen(p), want[p]);
        }
    }

    private static void counts(PackagePick x, int... want) {
        for (int what = 0; what < want.length; what++) {
            due("count(" + what + ")", x.count(what), want[what]);
        }
    }

    private static void due(String call, boolean got, boolean want) {
        due(call, got ? 1 : 0, want ? 1 : 0);
    }

    private static void due(String call, int got, int want) {
        if (got != want) {
            wrong++;
            System.out.println(sentence + ": " + call + " answered " + got + ", due is " + want);
        }
    }
}
