/** The sentences of the terms on filling and mending, each with its bounds. */
public final class TermsFillTest {
    private static final int NONE = Stripboard.NONE;

    public static void main(String[] args) {
        fillNothing();
        scenesThatAreNotOmittedNotShotNotOnTheBoard();
        inTheOrderOfTheStory();
        justThoseThatAreFree();
        alwaysTheFirstThatWasNotTried();
        untilThereIsNone();
        atTheEndOfADay();
        theFirstDayFromThatOfNowOn();
        theLastDay();
        fewerThanEight();
        noSceneThatHadNoFault();
        byTheMinutesOfADay();
        theNewOneNeither();
        thoseThatHadSomeMayGetOthers();
        ifThereIsNoneItIsLeft();
        mendNothing();
        notShotAndNeedSomebodyIll();
        inTheirOrder();
        eachOnAnotherDay();
        mendFromThatOfNowOn();
        mendToDaysOfFewerThanEight();
        mendLikewise();
        thoseThatFindNoneAreLeft();
        Check.end("TermsFillTest");
    }

    /** A scene that needs the only person. */
    private static void needOne(Stripboard x, int... scenes) {
        for (int scene : scenes) x.needs(scene, 1);
    }

    private static void illFrom(Stripboard x, int from, int to) {
        for (int day = from; day <= to; day++) x.ill(0, day, true);
    }

    /** "Fills the board; returns how many scenes were put": none of none, and none if all are on it. */
    private static void fillNothing() {
        Check.due("no scenes", new Stripboard().fill(), 0);
        Stripboard x = Film.of(1, 20);
        Check.due("all", x.fill(), 20);
        Check.due("all are on it", x.fill(), 0);
        Film.row("eight", x, 0, 0, 1, 2, 3, 4, 5, 6, 7);
        Film.row("eight", x, 1, 8, 9, 10, 11, 12, 13, 14, 15);
        Film.row("four", x, 2, 16, 17, 18, 19);
    }

    /** "To fill the board is to go over scenes that are not omitted, not shot, not on the board": owed ones, too. */
    private static void scenesThatAreNotOmittedNotShotNotOnTheBoard() {
        Stripboard x = Film.of(1, 6);
        x.put(0, 0, 0);
        x.put(1, 0, 1);
        x.put(2, 0, 2);
        x.shoot(0, 15);
        x.shoot(1, 15);
        x.lose(1);
        x.next();
        x.omit(3);
        x.put(4, 7, 0);
        Check.due("two owed ones, and an open one", x.fill(), 3);
        Film.row("shot", x, 0, 0);
        Film.row("put", x, 1, 1, 2, 5);
        Film.row("on the board", x, 7, 4);
    }

    /** "in the order of the story": not of their numbers. */
    private static void inTheOrderOfTheStory() {
        Stripboard x = Film.of(1, 0);
        for (int i = 0; i < 8; i++) x.scene(i == 4 ? 0 : NONE, 0, true, true, 1);
        x.lock();
        Check.due("all", x.fill(), 8);
        Film.row("by the story", x, 0, 7, 6, 5, 3, 2, 1, 0, 4);
    }

    /** "but just those that are bound behind no one that is neither on the board, nor shot, nor omitted" */
    private static void justThoseThatAreFree() {
        Stripboard x = Film.of(1, 7);
        Film.person(x, 0, 1);
        needOne(x, 0, 1, 2, 3, 4, 5);
        for (int i = 0; i < 6; i++) x.bind(6, i);
        x.put(0, 0, 0);
        x.shoot(0, 15);
        x.put(1, 0, 1);
        x.omit(2);
        illFrom(x, 0, 29);
        Check.due("three are neither", x.fill(), 0);
        x.omit(3);
        x.omit(4);
        Check.due("one is neither", x.fill(), 0);
        x.omit(5);
        Check.due("none is", x.fill(), 1);
        Film.row("behind them", x, 0, 0, 1, 6);
    }

    /** "always the first one that is so, and was not tried": one that was freed is next, if it is the first. */
    private static void alwaysTheFirstThatWasNotTried() {
        Stripboard x = Film.of(1, 5);
        x.bind(0, 3);
        x.bind(1, 0);
        x.bind(2, 4);
        Check.due("all", x.fill(), 5);
        Film.row("3 is the first that is free", x, 0, 3, 0, 1, 4, 2);
        Stripboard y = Film.of(1, 20);
        for (int i = 0; i < 19; i++) y.bind(i, i + 1);
        Check.due("a chain from behind", y.fill(), 20);
        Film.row("from behind", y, 0, 19, 18, 17, 16, 15, 14, 13, 12);
        Film.row("from behind", y, 2, 3, 2, 1, 0);
    }

    /** "until there is none": each is tried once, though it would find a day later on. */
    private static void untilThereIsNone() {
        Stripboard x = Film.of(1, 20);
        x.bind(0, 19);
        for (int i = 1; i < 8; i++) x.put(i, 29, 0);
        x.put(19, 29, 0);
        Check.due("the first finds none, the others do", x.fill(), 11);
        Check.due("left", x.ofScene(0, 0), Stripboard.OPEN);
        x.take(3);
        Check.due("both find a day now", x.fill(), 2);
        Film.row("at the end", x, 29, 19, 7, 6, 5, 4, 2, 1, 0);
    }

    /** "each is put at the end" of a row. */
    private static void atTheEndOfADay() {
        Stripboard x = Film.of(1, 4);
        x.put(3, 0, 0);
        x.put(1, 0, 0);
        Check.due("two", x.fill(), 2);
        Film.row("at the end", x, 0, 1, 3, 0, 2);
    }

    /** "of the first day, from that of now on": each looks from there anew. */
    private static void theFirstDayFromThatOfNowOn() {
        Stripboard x = Film.of(1, 4);
        Film.person(x, 0, 1);
        needOne(x, 0, 2);
        illFrom(x, 0, 4);
        Check.due("all", x.fill(), 4);
        Film.row("those that need nobody", x, 0, 1, 3);
        Film.row("those that need one", x, 5, 0, 2);
        for (int day = 1; day < 8; day++) {
            x.next();
            x.fill();
            Film.row("nothing on days that are over", x, day - 1);
        }
        Film.row("owed ones, from now on", x, 7, 0, 1, 2, 3);
    }

    /** The last day is one, the day 30 is none. */
    private static void theLastDay() {
        Stripboard x = Film.of(1, 2);
        Film.person(x, 0, 1);
        needOne(x, 0, 1);
        illFrom(x, 0, 28);
        Check.due("two", x.fill(), 2);
        Film.row("the last day", x, 29, 0, 1);
        Stripboard y = Film.of(1, 9);
        for (int day = 0; day < 29; day++) y.next();
        Check.due("eight on the last day", y.fill(), 8);
        Check.due("the ninth is left", y.ofScene(8, 1), NONE);
    }

    /** "which has fewer than 8": 7 are taken, 8 are not; shot ones count. */
    private static void fewerThanEight() {
        for (int many = 6; many <= 8; many++) {
            Stripboard x = Film.of(1, 9);
            for (int i = 0; i < many; i++) x.put(i, 0, i);
            for (int i = 0; i < many; i++) x.shoot(i, 10);
            Check.due("the others", x.fill(), 9 - many);
            for (int i = many; i < 9; i++) Check.due("its day", x.ofScene(i, 1), i < 8 ? 0 : 1);
        }
    }

    /** "and on which no scene that had no fault has one by that": a child that would have too long a day. */
    private static void noSceneThatHadNoFault() {
        for (int eighths : new int[] {29, 30, 31}) {
            Stripboard x = Film.of(1, 0);
            x.person(0, 1, 0, true);
            x.scene(NONE, 0, true, true, 1);
            x.scene(0, 0, true, true, eighths);
            x.scene(1, 0, true, true, 1);
            needOne(x, 0, 2);
            x.put(0, 0, 0);
            x.put(1, 0, 1);
            x.fill();
            // 15, 30 of lunch, 15 for each eighth, 15.
            Check.due(eighths + " eighths between", x.ofScene(2, 1), eighths <= 28 ? 0 : 1);
        }
        Stripboard x = Film.of(1, 0);
        x.person(0, 1, 30, true);
        x.scene(NONE, 0, true, true, 1);
        x.scene(0, 0, true, true, 25);
        x.scene(1, 0, true, true, 1);
        needOne(x, 0, 2);
        x.put(0, 0, 0);
        x.put(1, 0, 1);
        Check.due("30 to prepare, 15, 30, 375, 15", x.fill(), 1);
        Check.due("465 minutes", x.ofScene(2, 1), 0);
        x.take(2);
        x.scene(1, 0, true, true, 2);
        needOne(x, 3);
        x.omit(2);
        Check.due("480 minutes", x.fill(), 1);
        Check.due("480 minutes", x.ofScene(3, 1), 0);
        x.take(3);
        x.scene(1, 0, true, true, 3);
        needOne(x, 4);
        x.omit(3);
        Check.due("495 minutes", x.fill(), 1);
        Check.due("495 minutes", x.ofScene(4, 1), 1);
    }

    /** A day may get 720 minutes long, and not 721. */
    private static void byTheMinutesOfADay() {
        for (int minutes = 667; minutes <= 671; minutes++) {
            Stripboard x = Film.of(1, 0);
            x.scene(NONE, 0, true, true, 32);
            x.scene(0, 0, true, true, 1);
            x.put(0, 0, 0);
            int eighth = x.shoot(0, minutes);
            Check.due("one", x.fill(), 1);
            Check.due(minutes + ", 30 and " + eighth, x.ofScene(1, 1), minutes + 30 + eighth > 720 ? 1 : 0);
        }
    }

    /** "the new one neither": not one that had a fault there, of each kind. */
    private static void theNewOneNeither() {
        Stripboard x = Film.of(2, 1);
        x.person(0, 1, 0, true);
        int[] days = new int[5];
        x.permit(1, 0, false);
        x.scene(0, 1, true, true, 1);
        days[1] = 1;
        x.light(0, 480, 0, 480);
        x.light(1, 480, 0, 493);
        x.scene(1, 0, true, false, 1);
        days[2] = 2;
        x.scene(2, 0, true, true, 1);
        x.needs(3, 1);
        illFrom(x, 0, 3);
        days[3] = 4;
        x.scene(3, 0, true, true, 1);
        x.bind(4, 0);
        x.put(0, 6, 0);
        days[0] = 6;
        days[4] = 6;
        Check.due("four", x.fill(), 4);
        for (int i = 0; i < 5; i++) Check.due("day of " + i, x.ofScene(i, 1), days[i]);
        Stripboard y = Film.of(1, 1, 31);
        y.person(0, 1, 31, true);
        y.needs(0, 1);
        Check.due("a child never has 496 minutes", y.fill(), 0);
        Stripboard z = Film.of(1, 2, 32);
        z.put(0, 0, 0);
        z.shoot(0, 1000);
        Check.due("1024 minutes fit no day", z.fill(), 0);
    }

    /** "(those that had some may get others)": a day with faults takes what has none of its own. */
    private static void thoseThatHadSomeMayGetOthers() {
        Stripboard x = Film.of(2, 0);
        x.person(0, 1, 0, true);
        x.scene(NONE, 1, true, true, 1);
        x.scene(0, 0, true, true, 32);
        x.scene(1, 0, true, true, 2);
        x.needs(0, 1);
        x.permit(1, 0, false);
        x.put(0, 0, 0);
        x.put(1, 0, 1);
        Check.due("not allowed", x.ofScene(0, 4), 1);
        x.needs(2, 1);
        Check.due("a child's long day", x.fill(), 1);
        Check.due("is a fault of the new one, too", x.ofScene(2, 1), 1);
        x.take(2);
        x.needs(2, 0);
        Check.due("without the child", x.fill(), 1);
        Check.due("beside one with a fault", x.ofScene(2, 1), 0);
        Stripboard y = Film.of(2, 0);
        y.scene(NONE, 1, true, true, 1);
        y.scene(0, 0, true, true, 1);
        y.person(0, 1, 180, true);
        y.needs(0, 1);
        y.permit(1, 0, false);
        y.ill(0, 0, true);
        y.put(0, 0, 0);
        Check.due("has some", y.ofScene(0, 4), 5);
        Check.due("one", y.fill(), 1);
        Check.due("on its day", y.ofScene(1, 1), 0);
        Stripboard z = Film.of(1, 0);
        z.person(0, 1, 0, true);
        z.scene(NONE, 0, true, true, 32);
        z.scene(0, 0, true, true, 14);
        z.scene(1, 0, true, true, 1);
        z.put(0, 0, 0);
        z.put(1, 0, 1);
        Check.due("720 minutes are full", z.fill(), 1);
        Check.due("the next day", z.ofScene(2, 1), 1);
    }

    /** "if there is none, it is left": and others are tried. */
    private static void ifThereIsNoneItIsLeft() {
        Stripboard x = Film.of(1, 20);
        Film.person(x, 0, 1);
        for (int i = 0; i < 19; i++) x.needs(i, 1);
        illFrom(x, 0, 29);
        Check.due("the last one alone", x.fill(), 1);
        Film.row("alone", x, 0, 19);
        for (int i = 0; i < 19; i++) Check.due("left", x.ofScene(i, 0), Stripboard.OPEN);
        x.ill(0, 29, false);
        Check.due("eight find the last day", x.fill(), 8);
        Film.row("the last day", x, 29, 0, 1, 2, 3, 4, 5, 6, 7);
    }

    /** "Mends a day. Returns how many scenes were put on other days": none, if nobody is ill, or nobody needed. */
    private static void mendNothing() {
        Stripboard x = Film.of(1, 2);
        Film.person(x, 0, 1);
        Film.person(x, 0, 1);
        x.needs(0, 2);
        x.put(0, 3, 0);
        x.put(1, 3, 1);
        x.ill(0, 3, true);
        x.ill(1, 2, true);
        x.ill(1, 4, true);
        for (int day = 0; day < 30; day++) Check.due("nothing", x.mend(day), 0);
        Film.row("as it was", x, 3, 0, 1);
    }

    /** "to take all scenes that were not shot, and need somebody who is ill on it, off the board" */
    private static void notShotAndNeedSomebodyIll() {
        Stripboard x = Film.of(1, 8);
        for (int i = 0; i < 8; i++) {
            Film.person(x, 0, 1);
            x.put(i, 0, i);
        }
        for (int i = 0; i < 8; i++) x.needs(i, 1 << i);
        x.needs(4, 0);
        x.shoot(0, 15);
        x.ill(0, 0, true);
        x.ill(1, 0, true);
        x.ill(7, 0, true);
        Check.due("two", x.mend(0), 2);
        Film.row("those that stay", x, 0, 0, 2, 3, 4, 5, 6);
        Film.row("those that go", x, 1, 1, 7);
        for (int i = 0; i < 8; i++) x.ill(i, 0, true);
        Check.due("four", x.mend(0), 4);
        Film.row("one was shot, one needs nobody", x, 0, 0, 4);
        Film.row("behind the two", x, 1, 1, 7, 2, 3, 5, 6);
        Stripboard y = Film.of(1, 8);
        Film.person(y, 0, 1);
        for (int i = 0; i < 8; i++) {
            y.needs(i, 1);
            y.put(i, 0, i);
        }
        y.ill(0, 0, true);
        Check.due("all eight", y.mend(0), 8);
        Film.row("none is left there", y, 0);
        Film.row("all", y, 1, 0, 1, 2, 3, 4, 5, 6, 7);
    }

    /** "and to put them, in their order": of their row. */
    private static void inTheirOrder() {
        Stripboard x = Film.of(1, 4);
        Film.person(x, 0, 1);
        needOne(x, 0, 1, 2, 3);
        x.put(1, 0, 0);
        x.put(3, 0, 1);
        x.put(0, 0, 2);
        x.put(2, 0, 3);
        x.ill(0, 0, true);
        Check.due("all", x.mend(0), 4);
        Film.row("as they stood", x, 1, 1, 3, 0, 2);
    }

    /** "each on another day": not back, even if it would be fit for that, and not all on one. */
    private static void eachOnAnotherDay() {
        Stripboard x = Film.of(1, 12);
        Film.person(x, 0, 1);
        needOne(x, 0, 1, 2);
        for (int i = 3; i < 9; i++) x.put(i, 0, 0);
        for (int i = 0; i < 3; i++) x.put(i, 1, i);
        illFrom(x, 1, 28);
        Check.due("three", x.mend(1), 3);
        Film.row("two on the first day", x, 0, 8, 7, 6, 5, 4, 3, 0, 1);
        Film.row("the third on the last", x, 29, 2);
        Film.row("none back", x, 1);
        x.ill(0, 29, true);
        Check.due("none", x.mend(29), 0);
        Check.due("off", x.ofScene(2, 0), Stripboard.OPEN);
    }

    /** "from that of now on": days that are over are none, that of now is one, if it is not the mended one. */
    private static void mendFromThatOfNowOn() {
        Stripboard x = Film.of(1, 2);
        Film.person(x, 0, 1);
        needOne(x, 0, 1);
        x.next();
        x.next();
        Check.refused("over", Check.STATE, () -> x.mend(1));
        x.put(0, 2, 0);
        x.put(1, 29, 0);
        x.ill(0, 2, true);
        x.ill(0, 29, true);
        Check.due("that of now", x.mend(2), 1);
        Film.row("the next day", x, 3, 0);
        x.ill(0, 2, false);
        Check.due("the last day", x.mend(29), 1);
        Film.row("that of now", x, 2, 1);
    }

    /** Days that have 8 are passed over. */
    private static void mendToDaysOfFewerThanEight() {
        Stripboard x = Film.of(1, 18);
        Film.person(x, 0, 1);
        needOne(x, 0, 1);
        for (int i = 2; i < 10; i++) x.put(i, 0, 0);
        for (int i = 10; i < 17; i++) x.put(i, 1, 0);
        x.put(0, 2, 0);
        x.put(1, 2, 1);
        x.ill(0, 2, true);
        Check.due("two", x.mend(2), 2);
        Check.due("seven were there", x.ofScene(0, 1), 1);
        Check.due("eight are there", x.ofScene(1, 1), 3);
    }

    /** "likewise": no scene that had no fault has one by that, the new one neither. */
    private static void mendLikewise() {
        Stripboard x = Film.of(2, 0);
        x.person(0, 1, 0, true);
        x.scene(NONE, 0, true, true, 31);
        x.scene(0, 1, true, true, 1);
        x.scene(1, 0, true, true, 14);
        needOne(x, 0, 1);
        x.put(0, 0, 0);
        x.put(1, 2, 0);
        x.put(2, 1, 0);
        x.permit(1, 4, false);
        x.ill(0, 2, true);
        x.ill(0, 3, true);
        Check.due("one", x.mend(2), 1);
        Check.due("a child's day is full, the next is not", x.ofScene(1, 1), 1);
        x.ill(0, 1, true);
        Check.due("one", x.mend(1), 1);
        Check.due("ill on 2 and 3, not allowed on 4", x.ofScene(1, 1), 5);
        Stripboard y = Film.of(1, 3);
        Film.person(y, 0, 1);
        needOne(y, 0, 1);
        y.bind(1, 0);
        y.bind(2, 1);
        y.put(0, 0, 0);
        y.put(1, 0, 1);
        y.put(2, 5, 0);
        illFrom(y, 0, 1);
        Check.due("both", y.mend(0), 2);
        Film.row("one behind the other", y, 2, 0, 1);
        y.ill(0, 2, true);
        illFrom(y, 3, 5);
        Check.due("both", y.mend(2), 2);
        Film.row("behind what is bound behind them", y, 6, 0, 1);
        Check.due("which has a fault by that, on another day", y.ofScene(2, 4), 16);
    }

    /** "those that find none are left": off, open, or owed. */
    private static void thoseThatFindNoneAreLeft() {
        Stripboard x = Film.of(1, 3);
        Film.person(x, 0, 1);
        needOne(x, 0, 1);
        x.put(0, 0, 0);
        x.next();
        x.put(0, 1, 0);
        x.put(1, 1, 1);
        x.put(2, 1, 2);
        illFrom(x, 1, 29);
        Check.due("none", x.mend(1), 0);
        Film.row("who needs nobody stays", x, 1, 2);
        Check.due("owed", x.ofScene(0, 0), Stripboard.OWED);
        Check.due("open", x.ofScene(1, 0), Stripboard.OPEN);
        for (int i = 0; i < 2; i++) Check.due("off", x.ofScene(i, 1), NONE);
    }
}
