/** The sentences of the terms on scenes and things, each with its bounds. */
public final class TermsStoryTest {
    private static final int NONE = Stripboard.NONE;

    public static void main(String[] args) {
        scenesAreNumberedFromNoughtUpToTwenty();
        aNewOneIsBehindAnotherOne();
        aNewOneIsAheadOfAll();
        aLabelIsThePlaceInTheStoryFromOneOn();
        labelsStayWhenLocked();
        lockedWithNothing();
        theNumberOfTheLastOneWithoutLetter();
        noughtWithoutOne();
        theLowestLetterOfThatNumber();
        lettersAreFromOneOn();
        theHighestLetterThatCanBe();
        anOmittedOneKeepsPlaceAndLabel();
        anOmittedOneIsOnTheBoardNoMore();
        omittedForGood();
        aSceneIsOneToThirtyTwoEighths();
        aSceneNeedsSomePeople();
        thingsHaveTheLookNoughtAtFirst();
        looksAreNoughtToNine();
        thingsAreNoughtToThree();
        inPlaceOfWhatWasToldBefore();
        nothingIsTold();
        forOneThingOrMore();
        eachLeavesWhatItIsToldTo();
        omittedOnesLeaveAndClashNot();
        Check.end("TermsStoryTest");
    }

    /** "Scenes are numbered from 0, as they are made, up to 20": the numbers 0 to 19. */
    private static void scenesAreNumberedFromNoughtUpToTwenty() {
        Stripboard x = Film.of(1, 0);
        for (int i = 0; i < 20; i++) {
            int next = i;
            Check.refused("not made", Check.INDEX, () -> x.label(next));
            Check.due("its number", x.scene(i % 2 == 0 ? NONE : i - 1, 0, true, true, 1), i);
        }
        Check.refused("a twenty-first", Check.STATE, () -> x.scene(NONE, 0, true, true, 1));
        Check.refused("a twenty-first", Check.INDEX, () -> x.label(20));
        Check.due("all count", x.lock(), 20);
        Check.refused("locked, too", Check.STATE, () -> x.scene(19, 0, true, true, 1));
        x.omit(0);
        Check.refused("omitted ones, too", Check.STATE, () -> x.scene(19, 0, true, true, 1));
    }

    /** "and stand in the order of the story: a new one behind another one": right behind it. */
    private static void aNewOneIsBehindAnotherOne() {
        Stripboard x = Film.of(1, 3);
        x.scene(2, 0, true, true, 1);
        Film.labels("behind the last", x, 100, 200, 300, 400);
        x.scene(0, 0, true, true, 1);
        Film.labels("behind the first", x, 100, 300, 400, 500, 200);
        x.scene(0, 0, true, true, 1);
        Film.labels("behind the first again", x, 100, 400, 500, 600, 300, 200);
    }

    /** "or ahead of all." */
    private static void aNewOneIsAheadOfAll() {
        Stripboard x = Film.of(1, 0);
        x.scene(NONE, 0, true, true, 1);
        Film.labels("the first", x, 100);
        x.scene(NONE, 0, true, true, 1);
        Film.labels("ahead of it", x, 200, 100);
        x.scene(NONE, 0, true, true, 1);
        Film.labels("ahead of both", x, 300, 200, 100);
    }

    /** "Until the script is locked a scene's label is its place in the story, from 1 on": 1 to 20. */
    private static void aLabelIsThePlaceInTheStoryFromOneOn() {
        Stripboard x = Film.of(1, 20);
        for (int i = 0; i < 20; i++) Check.due("label", x.label(i), 100 * (i + 1));
        Stripboard y = Film.of(1, 0);
        for (int i = 0; i < 20; i++) {
            y.scene(NONE, 0, true, true, 1);
            for (int j = 0; j <= i; j++) Check.due("those behind move on", y.label(j), 100 * (i - j + 1));
        }
    }

    /** "When it is locked, labels stay as they are": of all, by what comes ahead of them. */
    private static void labelsStayWhenLocked() {
        Stripboard x = Film.of(1, 2);
        x.scene(NONE, 0, true, true, 1);
        Film.labels("before", x, 200, 300, 100);
        Check.due("locked", x.lock(), 3);
        Film.labels("locked", x, 200, 300, 100);
        x.scene(NONE, 0, true, true, 1);
        x.scene(2, 0, true, true, 1);
        Film.labels("new ones ahead", x, 200, 300, 100, 1, 101);
        x.omit(2);
        Film.labels("omitted", x, 200, 300, 100, 1, 101);
        Stripboard y = Film.of(1, 20);
        Check.due("all 20", y.lock(), 20);
        Check.due("the first", y.label(0), 100);
        Check.due("the last", y.label(19), 2000);
    }

    /** An empty script can be locked: no scene is without a letter then. */
    private static void lockedWithNothing() {
        Stripboard x = Film.of(1, 0);
        Check.due("no scene", x.lock(), 0);
        Check.refused("once", Check.STATE, x::lock);
        x.scene(NONE, 0, true, true, 1);
        Film.labels("0A", x, 1);
        Check.refused("once", Check.STATE, x::lock);
    }

    /** "has the number of the last one ahead of it that has no letter": lettered ones between are passed over. */
    private static void theNumberOfTheLastOneWithoutLetter() {
        Stripboard x = Film.of(1, 3);
        x.lock();
        x.scene(0, 0, true, true, 1);
        x.scene(3, 0, true, true, 1);
        x.scene(4, 0, true, true, 1);
        Film.labels("behind the lettered", x, 100, 200, 300, 101, 102, 103);
        x.scene(1, 0, true, true, 1);
        x.scene(2, 0, true, true, 1);
        Film.labels("behind others", x, 100, 200, 300, 101, 102, 103, 201, 301);
        x.omit(1);
        x.scene(6, 0, true, true, 1);
        Check.due("behind an omitted one", x.label(8), 202);
        x.scene(5, 0, true, true, 1);
        Check.due("right ahead of 2", x.label(9), 104);
    }

    /** "0 without one." */
    private static void noughtWithoutOne() {
        Stripboard x = Film.of(1, 1);
        x.lock();
        x.scene(NONE, 0, true, true, 1);
        x.scene(1, 0, true, true, 1);
        x.scene(NONE, 0, true, true, 1);
        x.scene(0, 0, true, true, 1);
        Film.labels("ahead of 1 and behind it", x, 100, 1, 2, 3, 101);
    }

    /** "the lowest letter that no scene has with this number": those of other numbers do not count. */
    private static void theLowestLetterOfThatNumber() {
        Stripboard x = Film.of(1, 3);
        x.lock();
        int[] behind = {0, 1, 1, 2, 2, 2, NONE, 0, 1, 2, NONE};
        int[] labels = {101, 201, 202, 301, 302, 303, 1, 102, 203, 304, 2};
        for (int i = 0; i < behind.length; i++) {
            Check.due("letter of " + labels[i], x.label(x.scene(behind[i], 0, true, true, 1)), labels[i]);
        }
        x.omit(3);
        Check.due("an omitted one has its letter", x.label(x.scene(0, 0, true, true, 1)), 103);
    }

    /** "A to Z, as 1 to 26": the first is 1. */
    private static void lettersAreFromOneOn() {
        Stripboard x = Film.of(1, 19);
        x.lock();
        x.scene(18, 0, true, true, 1);
        Check.due("19A", x.label(19), 1901);
        for (int i = 0; i < 19; i++) Check.due("no letter is 0", x.label(i) % 100, 0);
    }

    /** 20 scenes can't use up 26 letters: the highest are T of 0, and S of 1. */
    private static void theHighestLetterThatCanBe() {
        Stripboard x = Film.of(1, 0);
        x.lock();
        for (int i = 1; i <= 20; i++) Check.due("0 with " + i, x.label(x.scene(NONE, 0, true, true, 1)), i);
        Check.refused("there are 20", Check.STATE, () -> x.scene(NONE, 0, true, true, 1));
        Stripboard y = Film.of(1, 1);
        y.lock();
        for (int i = 1; i <= 19; i++) Check.due("1 with " + i, y.label(y.scene(0, 0, true, true, 1)), 100 + i);
    }

    /** "it keeps its place and label" */
    private static void anOmittedOneKeepsPlaceAndLabel() {
        Stripboard x = Film.of(1, 3);
        Check.due("two are left", x.omit(0), 2);
        Film.labels("open script", x, 100, 200, 300);
        x.scene(0, 0, true, true, 1);
        Film.labels("one behind it", x, 100, 300, 400, 200);
        Check.due("it is locked with the others", x.lock(), 4);
        Check.due("two more", x.omit(2), 2);
        Check.due("one", x.omit(3), 1);
        Check.due("none", x.omit(1), 0);
        Film.labels("all omitted", x, 100, 300, 400, 200);
        x.scene(2, 0, true, true, 1);
        Film.labels("one behind them", x, 100, 300, 400, 200, 401);
    }

    /** "and is on the board no more": the row closes, and what is on no day has no number of it. */
    private static void anOmittedOneIsOnTheBoardNoMore() {
        Stripboard x = Film.of(1, 3);
        for (int i = 0; i < 3; i++) x.put(i, 0, i);
        x.omit(0);
        Film.row("without the first", x, 0, 1, 2);
        x.omit(2);
        Film.row("without the last", x, 0, 1);
        x.omit(1);
        Film.row("without any", x, 0);
        for (int what = 1; what < 5; what++) Check.due("on no day", x.ofScene(1, what), NONE);
        Check.due("it costs nothing", x.cost(), 0);
    }

    /** "A scene can be omitted, for good": no call brings it back. */
    private static void omittedForGood() {
        Stripboard x = Film.of(1, 2);
        x.put(0, 0, 0);
        x.omit(0);
        Check.refused("once", Check.STATE, () -> x.omit(0));
        Check.refused("not put", Check.STATE, () -> x.put(0, 0, 0));
        Check.refused("not taken", Check.STATE, () -> x.take(0));
        Check.refused("not shot", Check.STATE, () -> x.shoot(0, 60));
        Check.refused("not lost", Check.STATE, () -> x.lose(0));
        Check.due("not filled with", x.fill(), 1);
        Check.due("not owed", x.next(), 1);
        Check.due("OMITTED", x.ofScene(0, 0), Stripboard.OMITTED);
    }

    /** "is 1 to 32 eighths of a page long" */
    private static void aSceneIsOneToThirtyTwoEighths() {
        Stripboard x = Film.of(1, 0);
        for (int eighths : new int[] {1, 2, 16, 31, 32}) {
            int scene = x.scene(NONE, 0, true, true, eighths);
            x.put(scene, 0, 0);
            Check.due("minutes", x.ofScene(scene, 3) - x.ofScene(scene, 2), 15 * eighths);
            x.take(scene);
        }
        Check.refused("none", Check.ARGUMENT, () -> x.scene(NONE, 0, true, true, 0));
        Check.refused("33", Check.ARGUMENT, () -> x.scene(NONE, 0, true, true, 33));
    }

    /** "and needs some people": nobody at first, up to all of 8, those that are told of later too. */
    private static void aSceneNeedsSomePeople() {
        Stripboard x = Film.of(1, 1);
        x.put(0, 0, 0);
        for (int i = 0; i < 8; i++) {
            int sum = 1 << i;
            Check.refused("not there yet", Check.ARGUMENT, () -> x.needs(0, sum));
            Film.person(x, Stripboard.BY_DAY, 1);
            Check.due("nobody at first", x.call(i, 0, true), -10000);
            Check.due("all that there are", x.needs(0, 2 * sum - 1), i + 1);
            Check.due("the last one works", x.call(i, 0, true), 495);
            Check.due("nobody", x.needs(0, 0), 0);
            Check.due("the last one works not", x.call(i, 0, true), -10000);
        }
        Check.refused("a ninth", Check.ARGUMENT, () -> x.needs(0, 256));
    }

    /** "There are the things 0 to 3, with a look, 0 at first." */
    private static void thingsHaveTheLookNoughtAtFirst() {
        for (int thing = 0; thing < 4; thing++) {
            Stripboard x = Film.of(1, 1);
            Check.due("0", x.look(0, thing, true, 0), 0);
            Check.due("another one", x.look(0, thing, true, 1), 1);
            Check.due("another one", x.look(0, thing, true, 9), 1);
        }
    }

    /** "A scene can want a look of a thing, 0 to 9, and can leave it with a look" */
    private static void looksAreNoughtToNine() {
        Stripboard x = Film.of(1, 2);
        for (int left = 0; left < 10; left++) {
            x.look(0, 2, false, left);
            for (int wanted = 0; wanted < 10; wanted++) {
                Check.due("wanted as left", x.look(1, 2, true, wanted), wanted == left ? 0 : 1);
            }
            x.look(1, 2, true, NONE);
        }
        Check.refused("10", Check.ARGUMENT, () -> x.look(1, 2, true, 10));
        Check.refused("-2", Check.ARGUMENT, () -> x.look(1, 2, false, -2));
    }

    /** The things are apart from each other. */
    private static void thingsAreNoughtToThree() {
        for (int left = 0; left < 4; left++) {
            for (int wanted = 0; wanted < 4; wanted++) {
                Stripboard x = Film.of(1, 2);
                Check.due("left", x.look(0, left, false, 5), 0);
                Check.due("wanted", x.look(1, wanted, true, 5), left == wanted ? 0 : 1);
            }
        }
        Stripboard x = Film.of(1, 1);
        Check.refused("4", Check.INDEX, () -> x.look(0, 4, true, 0));
        Check.refused("-1", Check.INDEX, () -> x.look(0, -1, true, 0));
    }

    /** "in place of what was told before" */
    private static void inPlaceOfWhatWasToldBefore() {
        Stripboard x = Film.of(1, 2);
        x.look(0, 0, false, 4);
        Check.due("wanted", x.look(1, 0, true, 4), 0);
        Check.due("left otherwise", x.look(0, 0, false, 6), 1);
        Check.due("wanted otherwise", x.look(1, 0, true, 6), 0);
        Check.due("the first wants, and still leaves", x.look(0, 0, true, 0), 0);
        Check.due("the second leaves, and still wants", x.look(1, 0, false, 1), 0);
        Check.due("still", x.look(0, 0, false, 5), 1);
    }

    /** "or NONE: nothing is told": neither wanted nor left. */
    private static void nothingIsTold() {
        Stripboard x = Film.of(1, 3);
        x.look(0, 3, false, 4);
        Check.due("told nothing at first", x.clashes(1), false);
        x.look(1, 3, false, 2);
        Check.due("left by the second", x.look(2, 3, true, 4), 1);
        Check.due("left by the first then", x.look(1, 3, false, NONE), 0);
        Check.due("left by none", x.look(0, 3, false, NONE), 1);
        Check.due("wanted by none", x.look(2, 3, true, NONE), 0);
    }

    /** "one that wants another look than the thing has then, for one thing or more, CLASHES": each counts once. */
    private static void forOneThingOrMore() {
        Stripboard x = Film.of(1, 20);
        for (int thing = 0; thing < 4; thing++) Check.due("one scene", x.look(7, thing, true, 1), 1);
        for (int thing = 0; thing < 3; thing++) Check.due("one scene", x.look(7, thing, true, 0), 1);
        Check.due("by the last thing alone", x.clashes(7), true);
        Check.due("none", x.look(7, 3, true, 0), 0);
        Check.due("not any more", x.clashes(7), false);
        for (int i = 0; i < 20; i++) Check.due("all of them", x.look(i, i % 4, true, 2), i + 1);
        for (int i = 0; i < 20; i++) Check.due("each", x.clashes(i), true);
    }

    /** "Going through the story, each leaves what it is told to": from the next one on, in the order of the story. */
    private static void eachLeavesWhatItIsToldTo() {
        Stripboard x = Film.of(1, 3);
        x.look(1, 0, false, 1);
        for (int i = 0; i < 3; i++) x.look(i, 0, true, 1);
        Check.due("ahead of it", x.clashes(0), true);
        Check.due("itself", x.clashes(1), true);
        Check.due("behind it", x.clashes(2), false);
        x.scene(1, 0, true, true, 1);
        x.look(3, 0, false, 2);
        Check.due("another one between", x.clashes(2), true);
        x.scene(NONE, 0, true, true, 1);
        Check.due("one ahead of all, which does not clash", x.look(4, 0, false, 1), 1);
        Check.due("just the one behind the other", x.clashes(2), true);
    }

    /** "scenes that are not omitted" */
    private static void omittedOnesLeaveAndClashNot() {
        Stripboard x = Film.of(1, 3);
        x.look(0, 0, false, 1);
        x.look(1, 0, true, 0);
        Check.due("both behind it", x.look(2, 0, true, 0), 2);
        x.omit(1);
        Check.due("an omitted one does not clash", x.clashes(1), false);
        Check.due("one is left", x.look(0, 0, false, 1), 1);
        x.omit(0);
        Check.due("an omitted one leaves nothing", x.clashes(2), false);
        Check.due("none is left", x.look(0, 0, false, 3), 0);
        Check.due("told to an omitted one", x.look(1, 0, true, 9), 0);
    }
}
