/** The sentences of the terms on people, places and the times of a day, each with its bounds. */
public final class TermsPeopleTest {
    private static final int NONE = Stripboard.NONE;

    public static void main(String[] args) {
        peopleAreNumberedFromNoughtUpToEight();
        eachWithADeal();
        aRateOfOneToAThousand();
        minutesToPrepare();
        whetherAChild();
        theyCanBeIllOnDays();
        placesAreNumberedFromNoughtUpToSix();
        eachWithACost();
        allowedOnAllDaysUntilTold();
        sixtyMinutesToMoveAtFirst();
        theSameBothWays();
        movesOfNoughtToThreeHundred();
        daysAreNoughtToTwentyNine();
        lightAtFirst();
        lightOfOneDay();
        startsOfNoughtToTwelveHundred();
        aRowOfAtMostEight();
        fifteenMinutesAnEighth();
        theMinutesOfAllShootingsRoundedUp();
        ofThoseWhoseDailiesAreLostToo();
        aShotOneLastsWhatItLasted();
        aDayBeginsAtItsStart();
        whenTheOneAheadHasEnded();
        laterByAMove();
        noMoveWithinAPlace();
        lunchAtTheFirstThatEndsTooLate();
        lunchWithAMove();
        lunchOnce();
        lunchAheadOfTheFirst();
        noLunchOnAShortDay();
        aPersonWorksIfASceneNeedsThem();
        theCallIsLessWhatTheyTakeToPrepare();
        theWrapIsTheEndOfTheLastOne();
        Check.end("TermsPeopleTest");
    }

    /** "People are numbered from 0, up to 8": the numbers 0 to 7. */
    private static void peopleAreNumberedFromNoughtUpToEight() {
        Stripboard x = Film.of(0, 0);
        for (int i = 0; i < 8; i++) {
            int next = i;
            Check.refused("not there", Check.INDEX, () -> x.pay(next, false));
            Check.due("a number", Film.person(x, Stripboard.BY_DAY, 1), i);
            Check.due("there", x.pay(i, false), 0);
        }
        Check.refused("a ninth", Check.STATE, () -> Film.person(x, Stripboard.BY_DAY, 1));
        Check.refused("a ninth", Check.INDEX, () -> x.pay(8, false));
    }

    /** "each with a deal: by DAY, by WEEK, or for the RUN": 0 to 2; by what two days of a week give. */
    private static void eachWithADeal() {
        int[] due = {20, 10, 40};
        for (int deal = 0; deal < 3; deal++) {
            Stripboard x = Film.of(1, 2);
            Film.person(x, deal, 10);
            for (int i = 0; i < 2; i++) x.needs(i, 1);
            x.put(0, 0, 0);
            x.put(1, 3, 0);
            Check.due("deal " + deal, x.pay(0, false), due[deal]);
        }
        Stripboard x = Film.of(0, 0);
        Check.refused("deal -1", Check.ARGUMENT, () -> Film.person(x, -1, 10));
        Check.refused("deal 3", Check.ARGUMENT, () -> Film.person(x, 3, 10));
    }

    /** "a rate, 1 to 1000" */
    private static void aRateOfOneToAThousand() {
        for (int rate : new int[] {1, 2, 999, 1000}) {
            Stripboard x = Film.of(1, 1);
            Film.person(x, Stripboard.BY_DAY, rate);
            x.needs(0, 1);
            x.put(0, 0, 0);
            Check.due("rate", x.pay(0, false), rate);
        }
        Stripboard x = Film.of(0, 0);
        Check.refused("0", Check.ARGUMENT, () -> Film.person(x, 0, 0));
        Check.refused("1001", Check.ARGUMENT, () -> Film.person(x, 0, 1001));
    }

    /** "minutes that it takes to prepare, 0 to 180" */
    private static void minutesToPrepare() {
        for (int prepare : new int[] {0, 1, 179, 180}) {
            Stripboard x = Film.of(1, 1);
            x.person(0, 1, prepare, false);
            x.needs(0, 1);
            x.put(0, 0, 0);
            Check.due("call", x.call(0, 0, false), 480 - prepare);
            Check.due("wrap", x.call(0, 0, true), 495);
        }
        Stripboard x = Film.of(0, 0);
        Check.refused("-1", Check.ARGUMENT, () -> x.person(0, 1, -1, false));
        Check.refused("181", Check.ARGUMENT, () -> x.person(0, 1, 181, false));
    }

    /** "and whether a child": each of the eight for itself. */
    private static void whetherAChild() {
        Stripboard x = Film.of(1, 1, 32);
        for (int i = 0; i < 8; i++) x.person(0, 1, 1, i == 0 || i == 7);
        for (int i = 0; i < 8; i++) {
            x.needs(0, 1 << i);
            Check.due("481 minutes of " + i, Film.faultsAlone(x, 0, 0), i == 0 || i == 7 ? 8 : 0);
        }
    }

    /** "They can be ill on days": on any of them, on none at first, and well again. */
    private static void theyCanBeIllOnDays() {
        Stripboard x = Film.of(1, 1);
        for (int i = 0; i < 8; i++) Film.person(x, 0, 1);
        x.needs(0, 255);
        for (int day = 0; day < 30; day++) Check.due("well", Film.faultsAlone(x, 0, day), 0);
        for (int day = 0; day < 30; day += 29) {
            for (int i = 0; i < 8; i += 7) {
                Check.due("one day", x.ill(i, day, true), 1);
                Check.due("ill", Film.faultsAlone(x, 0, day), 4);
                Check.due("just then", Film.faultsAlone(x, 0, 29 - day), 0);
                Check.due("no day", x.ill(i, day, false), 0);
                Check.due("well again", Film.faultsAlone(x, 0, day), 0);
            }
        }
        Check.refused("day 30", Check.INDEX, () -> x.ill(0, 30, true));
        Check.refused("day -1", Check.INDEX, () -> x.ill(0, -1, true));
    }

    /** "Places are numbered from 0, up to 6": the numbers 0 to 5. */
    private static void placesAreNumberedFromNoughtUpToSix() {
        Stripboard x = Film.of(0, 0);
        for (int i = 0; i < 6; i++) {
            int next = i;
            Check.refused("not there", Check.INDEX, () -> x.scene(NONE, next, true, true, 1));
            Check.due("a number", x.place(i), i);
            Check.due("there", x.scene(NONE, i, true, true, 1), i);
        }
        Check.refused("a seventh", Check.STATE, () -> x.place(0));
        Check.refused("a seventh", Check.INDEX, () -> x.scene(NONE, 6, true, true, 1));
    }

    /** "each with a cost for a day": 0 to 1000. */
    private static void eachWithACost() {
        for (int cost : new int[] {0, 1, 999, 1000}) {
            Stripboard x = new Stripboard();
            x.place(cost);
            x.scene(NONE, 0, true, true, 1);
            x.put(0, 0, 0);
            Check.due("cost", x.cost(), cost);
        }
        Check.refused("-1", Check.ARGUMENT, () -> new Stripboard().place(-1));
        Check.refused("1001", Check.ARGUMENT, () -> new Stripboard().place(1001));
    }

    /** "a place is allowed on all days, until it is told of a day that it is not" */
    private static void allowedOnAllDaysUntilTold() {
        Stripboard x = Film.of(6, 0);
        for (int i = 0; i < 2; i++) x.scene(NONE, 5 * i, true, true, 1);
        for (int day = 0; day < 30; day++) Check.due("allowed", Film.faultsAlone(x, 0, day), 0);
        for (int day = 0; day < 30; day += 29) {
            for (int i = 0; i < 2; i++) {
                Check.due("not on one day", x.permit(5 * i, day, false), 29);
                Check.due("not then", Film.faultsAlone(x, i, day), 1);
                Check.due("the other place", Film.faultsAlone(x, 1 - i, day), 0);
                Check.due("another day", Film.faultsAlone(x, i, 29 - day), 0);
                Check.due("on all days", x.permit(5 * i, day, true), 30);
                Check.due("again", Film.faultsAlone(x, i, day), 0);
            }
        }
        Check.refused("day 30", Check.INDEX, () -> x.permit(0, 30, true));
        Check.refused("day -1", Check.INDEX, () -> x.permit(0, -1, true));
    }

    /** "To move from one place to another one takes some minutes, 60 at first": between all of the six. */
    private static void sixtyMinutesToMoveAtFirst() {
        for (int from = 0; from < 6; from++) {
            for (int to = 0; to < 6; to++) {
                if (from == to) continue;
                Stripboard x = Film.of(6, 0);
                x.scene(NONE, from, true, true, 1);
                x.scene(0, to, true, true, 1);
                x.put(0, 0, 0);
                x.put(1, 0, 1);
                Check.due("a move of 60", x.ofScene(1, 2), 555);
                Check.due("it took", x.move(from, to, 0), 60);
                Check.due("no time", x.ofScene(1, 2), 495);
            }
        }
    }

    /** "the same both ways" */
    private static void theSameBothWays() {
        Stripboard x = Film.of(6, 0);
        for (int from = 0; from < 6; from++) {
            for (int to = from + 1; to < 6; to++) Check.due("60", x.move(from, to, 10 * from + to), 60);
        }
        for (int from = 0; from < 6; from++) {
            for (int to = from + 1; to < 6; to++) Check.due("back", x.move(to, from, 200 + from), 10 * from + to);
        }
        for (int from = 0; from < 6; from++) {
            for (int to = from + 1; to < 6; to++) Check.due("and again", x.move(from, to, 0), 200 + from);
        }
    }

    /** "minutes: 0 to 300" */
    private static void movesOfNoughtToThreeHundred() {
        Stripboard x = Film.of(2, 1);
        x.scene(0, 1, true, true, 1);
        x.put(0, 0, 0);
        x.put(1, 0, 1);
        for (int minutes : new int[] {0, 1, 299, 300}) {
            x.move(1, 0, minutes);
            Check.due("a move of " + minutes, x.ofScene(1, 2), 495 + minutes);
        }
        Check.refused("-1", Check.ARGUMENT, () -> x.move(1, 0, -1));
        Check.refused("301", Check.ARGUMENT, () -> x.move(1, 0, 301));
        Check.due("the last that was told", x.move(0, 1, 0), 300);
    }

    /** "Days are 0 to 29" */
    private static void daysAreNoughtToTwentyNine() {
        Stripboard x = Film.of(1, 1);
        Film.person(x, 0, 1);
        for (int day : new int[] {0, 29}) {
            Check.due("put", x.put(0, day, 0), 0);
            Check.due("its day", x.ofScene(0, 1), day);
            Check.due("strip", x.strip(day, 0), 0);
            Check.due("taken from it", x.take(0), day);
            Check.due("mended", x.mend(day), 0);
            Check.due("nobody works", x.call(0, day, true), -10000);
            Check.due("ill", x.ill(0, day, false), 0);
            Check.due("allowed", x.permit(0, day, true), 30);
            x.light(day, 480, 360, 1080);
        }
        for (int day : new int[] {-1, 30}) {
            Check.refused("put", Check.INDEX, () -> x.put(0, day, 0));
            Check.refused("strip", Check.INDEX, () -> x.strip(day, 0));
            Check.refused("mend", Check.INDEX, () -> x.mend(day));
            Check.refused("call", Check.INDEX, () -> x.call(0, day, true));
            Check.refused("ill", Check.INDEX, () -> x.ill(0, day, true));
            Check.refused("permit", Check.INDEX, () -> x.permit(0, day, true));
            Check.refused("light", Check.INDEX, () -> x.light(day, 480, 360, 1080));
        }
    }

    /** "on each there is light from 360 to 1080 at first, as minutes of the day": by scenes that were shot. */
    private static void lightAtFirst() {
        int[][] dayAndFault = {{580, 0}, {600, 0}, {601, 2}};
        for (int[] row : dayAndFault) {
            Stripboard x = Film.of(1, 1);
            x.scene(0, 0, true, false, 1);
            x.put(1, 0, 0);
            x.shoot(1, row[0] - 30);
            Check.due("480 to " + (480 + row[0]), x.ofScene(1, 4), row[1]);
        }
        Stripboard x = Film.of(1, 0);
        x.scene(NONE, 0, true, false, 32);
        for (int day = 0; day < 30; day += 29) {
            Check.due("480 to 990", Film.faultsAlone(x, 0, day), 0);
            x.light(day, 570, 360, 1080);
            Check.due("600 to 1080", Film.faultsAlone(x, 0, day), 0);
            x.light(day, 570, 360, 1079);
            Check.due("a minute too long", Film.faultsAlone(x, 0, day), 2);
        }
    }

    /** "from: 0 to 1440", "to: from to 1440": both ends are within the light. */
    private static void lightOfOneDay() {
        Stripboard x = Film.of(1, 0);
        x.scene(NONE, 0, true, false, 4);
        x.put(0, 3, 0);
        int[][] rows = {{480, 540, 0}, {481, 540, 2}, {480, 539, 2}, {479, 541, 0}, {0, 1440, 0}, {0, 0, 2},
            {1440, 1440, 2}, {500, 500, 2}, {0, 539, 2}, {481, 1440, 2}};
        for (int[] row : rows) {
            x.light(3, 480, row[0], row[1]);
            Check.due("light from " + row[0] + " to " + row[1], x.ofScene(0, 4), row[2]);
        }
        x.take(0);
        for (int day = 2; day < 5; day += 2) Check.due("not on other days", Film.faultsAlone(x, 0, day), 0);
    }

    /** "start: 0 to 1200" */
    private static void startsOfNoughtToTwelveHundred() {
        Stripboard x = Film.of(1, 1);
        x.put(0, 29, 0);
        for (int start : new int[] {0, 1, 1199, 1200}) {
            x.light(29, start, 0, 1440);
            Check.due("begins", x.ofScene(0, 2), start);
        }
        Check.refused("-1", Check.ARGUMENT, () -> x.light(29, -1, 0, 1440));
        Check.refused("1201", Check.ARGUMENT, () -> x.light(29, 1201, 0, 1440));
        Check.due("as it was", x.ofScene(0, 2), 1200);
    }

    /** "Each day has a row of scenes, at most 8." */
    private static void aRowOfAtMostEight() {
        Stripboard x = Film.of(1, 18);
        for (int day : new int[] {0, 29}) {
            int first = day == 0 ? 0 : 8;
            for (int i = 0; i < 8; i++) {
                Check.due("not so many", x.strip(day, i), NONE);
                Check.due("put", x.put(first + i, day, i), 0);
            }
            Check.refused("a ninth at the end", Check.STATE, () -> x.put(16, day, 8));
            Check.refused("a ninth ahead", Check.STATE, () -> x.put(16, day, 0));
            Check.due("never so many", x.strip(day, 8), NONE);
        }
        x.shoot(0, 15);
        Check.refused("shot ones count", Check.STATE, () -> x.put(16, 0, 8));
        x.take(7);
        Check.due("one was taken", x.put(16, 0, 7), 0);
        x.lose(0);
        Check.due("one was lost", x.put(17, 0, 0), 0);
        x.omit(9);
        Check.due("one was omitted", x.put(0, 29, 7), 0);
    }

    /** "A scene lasts as many minutes as it has eighths, times those that an eighth lasts: 15" */
    private static void fifteenMinutesAnEighth() {
        Stripboard x = Film.of(1, 0);
        for (int eighths : new int[] {1, 2, 24}) {
            int scene = x.scene(NONE, 0, true, true, eighths);
            x.put(scene, 0, 0);
            Check.due("lasts", x.ofScene(scene, 3), 480 + 15 * eighths);
            x.take(scene);
        }
    }

    /** "when scenes were shot, the minutes of all shootings, divided by the eighths of these, rounded up" */
    private static void theMinutesOfAllShootingsRoundedUp() {
        int[][] shots = {{1, 1}, {32, 1}, {33, 2}, {64, 2}, {65, 3}, {31, 1}, {1000, 32}, {992, 31}, {993, 32}};
        for (int[] shot : shots) {
            Stripboard x = Film.of(1, 2, 32);
            x.put(0, 0, 0);
            Check.due(shot[0] + " by 32", x.shoot(0, shot[0]), shot[1]);
            x.put(1, 1, 0);
            x.light(1, 0, 0, 1440);
            int lunch = 32 * shot[1] > 360 ? 30 : 0;
            Check.due("32 times as long", x.ofScene(1, 3), lunch + 32 * shot[1]);
        }
        Stripboard x = Film.of(1, 0);
        int[][] runs = {{3, 10, 4}, {5, 30, 5}, {1, 6, 6}, {1, 4, 5}, {10, 51, 6}};
        for (int[] run : runs) {
            int scene = x.scene(NONE, 0, true, true, run[0]);
            x.put(scene, 0, 0);
            Check.due("all together", x.shoot(scene, run[1]), run[2]);
        }
    }

    /** "(shootings whose dailies are lost, too)": each one that was, twice shot twice. */
    private static void ofThoseWhoseDailiesAreLostToo() {
        Stripboard x = Film.of(1, 1, 4);
        x.put(0, 0, 0);
        Check.due("40 by 4", x.shoot(0, 40), 10);
        x.lose(0);
        x.put(0, 0, 0);
        Check.due("it lasts by its eighths again", x.ofScene(0, 3), 520);
        Check.due("48 by 8", x.shoot(0, 8), 6);
        x.lose(0);
        x.omit(0);
        x.scene(0, 0, true, true, 4);
        x.put(1, 0, 0);
        Check.due("of omitted ones, too", x.ofScene(1, 3), 504);
        Check.due("49 by 12", x.shoot(1, 1), 5);
    }

    /** "but one that is SHOT lasts what it lasted": 1 to 1000, whatever is learnt then. */
    private static void aShotOneLastsWhatItLasted() {
        Stripboard x = Film.of(1, 3, 4);
        for (int i = 0; i < 3; i++) x.put(i, 0, i);
        x.shoot(0, 1);
        Check.due("1 minute", x.ofScene(0, 3), 481);
        x.shoot(1, 1000);
        Check.due("still", x.ofScene(0, 3), 481);
        Check.due("1000 minutes, behind lunch", x.ofScene(1, 3), 1511);
        x.next();
        Check.due("still", x.ofScene(1, 3), 1511);
        x.put(2, 1, 0);
        x.shoot(2, 77);
        Check.due("still", x.ofScene(1, 3), 1511);
        Check.due("77 minutes", x.ofScene(2, 3), 557);
    }

    /** "A day begins at its start, 480 at first." */
    private static void aDayBeginsAtItsStart() {
        Stripboard x = Film.of(1, 2);
        for (int day = 0; day < 30; day++) {
            x.put(0, day, 0);
            Check.due("480", x.ofScene(0, 2), 480);
            x.light(day, 700 + day, 0, 1440);
            Check.due("as told", x.ofScene(0, 2), 700 + day);
            x.take(0);
        }
    }

    /** "Each scene begins when the one ahead of it has ended": at once, to the last of 8. */
    private static void whenTheOneAheadHasEnded() {
        Stripboard x = Film.of(1, 8);
        for (int i = 0; i < 8; i++) x.put(i, 0, 0);
        for (int i = 0; i < 8; i++) {
            Check.due("begins", x.ofScene(i, 2), 480 + 15 * (7 - i));
            Check.due("ends", x.ofScene(i, 3), 495 + 15 * (7 - i));
        }
    }

    /** "and later by a move, if it is at another place": than the one ahead, even if the day has been there. */
    private static void laterByAMove() {
        Stripboard x = Film.of(3, 0);
        x.move(0, 1, 1);
        x.move(1, 2, 20);
        x.move(2, 0, 40);
        int[] places = {0, 1, 2, 0, 2, 1, 0, 1};
        int[] begins = {480, 496, 531, 586, 641, 676, 692, 708};
        for (int i = 0; i < 8; i++) {
            x.scene(i - 1, places[i], true, true, 1);
            x.put(i, 0, i);
        }
        for (int i = 0; i < 8; i++) Check.due("begins", x.ofScene(i, 2), begins[i]);
    }

    /** No move ahead of the first, none within a place, and none from the day ahead. */
    private static void noMoveWithinAPlace() {
        Stripboard x = Film.of(6, 0);
        for (int i = 0; i < 4; i++) {
            x.scene(i - 1, 5, true, true, 1);
            x.put(i, i / 2, i % 2);
            Check.due("begins", x.ofScene(i, 2), 480 + 15 * (i % 2));
        }
    }

    /** "the first scene that would end more than 360 minutes behind the start is behind the lunch", of 30 minutes. */
    private static void lunchAtTheFirstThatEndsTooLate() {
        for (int start : new int[] {0, 480, 1200}) {
            Stripboard x = Film.of(1, 3, 1);
            x.light(0, start, 0, 1440);
            for (int i = 0; i < 3; i++) x.put(i, 0, i);
            x.shoot(0, 100);
            x.shoot(1, 260);
            Check.due("ends at 360: ahead of lunch", x.ofScene(1, 2), start + 100);
            Check.due("behind it", x.ofScene(2, 2), start + 390);
            Stripboard y = Film.of(1, 3, 1);
            y.light(0, start, 0, 1440);
            for (int i = 0; i < 3; i++) y.put(i, 0, i);
            y.shoot(0, 100);
            y.shoot(1, 261);
            Check.due("would end at 361: behind lunch", y.ofScene(1, 2), start + 130);
            Check.due("no second one", y.ofScene(2, 2), start + 391);
        }
    }

    /** The move to a scene is ahead of its lunch: with it, it would end too late. */
    private static void lunchWithAMove() {
        for (int minutes : new int[] {0, 59, 60, 61, 300}) {
            Stripboard x = Film.of(2, 1);
            x.scene(0, 1, true, true, 1);
            x.move(0, 1, minutes);
            x.put(0, 0, 0);
            x.put(1, 0, 1);
            x.shoot(0, 200);
            x.shoot(1, 100);
            int begins = 480 + 200 + minutes + (minutes > 60 ? 30 : 0);
            Check.due("a move of " + minutes, x.ofScene(1, 2), begins);
        }
    }

    /** There is one lunch a day, however long it gets. */
    private static void lunchOnce() {
        Stripboard x = Film.of(1, 8, 1);
        for (int i = 0; i < 8; i++) x.put(i, 0, i);
        for (int i = 0; i < 8; i++) x.shoot(i, 361);
        for (int i = 0; i < 8; i++) Check.due("begins", x.ofScene(i, 2), 510 + 361 * i);
        x.next();
        x.scene(NONE, 0, true, true, 1);
        x.put(8, 1, 0);
        x.shoot(8, 361);
        Check.due("the next day has its own", x.ofScene(8, 2), 510);
    }

    /** The first of a day can be it. */
    private static void lunchAheadOfTheFirst() {
        for (int minutes : new int[] {359, 360, 361}) {
            Stripboard x = Film.of(1, 1);
            x.put(0, 0, 0);
            x.shoot(0, minutes);
            Check.due("lasts " + minutes, x.ofScene(0, 2), minutes > 360 ? 510 : 480);
        }
        Stripboard x = Film.of(1, 0);
        x.scene(NONE, 0, true, true, 24);
        x.scene(NONE, 0, true, true, 25);
        x.put(0, 0, 0);
        x.put(1, 1, 0);
        Check.due("24 eighths", x.ofScene(0, 2), 480);
        Check.due("25 eighths", x.ofScene(1, 2), 510);
    }

    /** Nothing ends later than that: no lunch is held, at the end neither. */
    private static void noLunchOnAShortDay() {
        Stripboard x = Film.of(1, 8, 3);
        for (int i = 0; i < 8; i++) x.put(i, 0, i);
        for (int i = 0; i < 8; i++) Check.due("ends", x.ofScene(i, 3), 525 + 45 * i);
    }

    /** "A person works on a day, if a scene of it needs them": one of them is enough. */
    private static void aPersonWorksIfASceneNeedsThem() {
        Stripboard x = Film.of(1, 8);
        for (int i = 0; i < 8; i++) Film.person(x, 0, 1);
        for (int i = 0; i < 8; i++) x.put(i, 4, i);
        for (int i = 0; i < 8; i++) Check.due("no work", x.call(i, 4, false), -10000);
        for (int i = 0; i < 8; i++) {
            x.needs(i, 1 << i);
            Check.due("call", x.call(i, 4, false), 480 + 15 * i);
            Check.due("wrap", x.call(i, 4, true), 495 + 15 * i);
            Check.due("not on the day ahead", x.call(i, 3, false), -10000);
            Check.due("not on the day behind", x.call(i, 5, false), -10000);
        }
        x.take(7);
        Check.due("no work any more", x.call(7, 4, false), -10000);
    }

    /** "their call is when the first of these begins, less what they take to prepare": below 0, too. */
    private static void theCallIsLessWhatTheyTakeToPrepare() {
        Stripboard x = Film.of(1, 3);
        x.person(0, 1, 180, false);
        x.needs(1, 1);
        x.needs(2, 1);
        for (int i = 0; i < 3; i++) x.put(i, 0, i);
        Check.due("of the second", x.call(0, 0, false), 315);
        x.light(0, 165, 0, 1440);
        Check.due("0", x.call(0, 0, false), 0);
        x.light(0, 164, 0, 1440);
        Check.due("-1", x.call(0, 0, false), -1);
        x.light(0, 0, 0, 1440);
        x.needs(0, 1);
        Check.due("-180", x.call(0, 0, false), -180);
    }

    /** "their wrap is the end of the last one": above 1440, too. */
    private static void theWrapIsTheEndOfTheLastOne() {
        Stripboard x = Film.of(1, 3);
        x.person(0, 1, 180, false);
        x.needs(0, 1);
        x.needs(1, 1);
        for (int i = 0; i < 3; i++) x.put(i, 0, i);
        Check.due("of the second", x.call(0, 0, true), 510);
        x.light(0, 1200, 0, 1440);
        x.shoot(0, 120);
        x.shoot(1, 120);
        Check.due("1440", x.call(0, 0, true), 1440);
        x.needs(2, 1);
        Check.due("above it", x.call(0, 0, true), 1440 + 120);
        x.needs(0, 0);
        Check.due("without the first", x.call(0, 0, false), 1320 - 180);
    }
}
