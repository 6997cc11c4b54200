/** Promises 23 to 27: shooting, losing, days that end, pay and cost. */
public final class ShootingTest {
    private static final int NONE = Stripboard.NONE;

    public static void main(String[] args) {
        shoot();
        shootRefusals();
        lose();
        loseStillTeaches();
        next();
        nextToTheEnd();
        payByDay();
        payByWeek();
        payForRun();
        payForRunGaps();
        payOvertime();
        payLate();
        payShortNight();
        payShortNightOverDays();
        paySixthDay();
        payRoundsEach();
        payRefusals();
        cost();
        costOfPlaces();
        Check.end("ShootingTest");
    }

    /** A board with a place and scenes of four eighths, inside, in a row. */
    private static Stripboard with(int scenes) {
        Stripboard x = new Stripboard();
        x.place(0);
        for (int i = 0; i < scenes; i++) x.scene(i - 1, 0, true, true, 4);
        return x;
    }

    /** A board with one person, whom scenes of four eighths need, one on each of the days. */
    private static Stripboard work(int deal, int rate, int prepare, int... days) {
        Stripboard x = with(days.length);
        x.person(deal, rate, prepare, false);
        for (int i = 0; i < days.length; i++) {
            x.needs(i, 1);
            x.put(i, days[i], 0);
        }
        return x;
    }

    private static void shoot() {
        Stripboard x = with(4);
        for (int i = 0; i < 3; i++) x.put(i, 0, i);
        x.put(3, 1, 0);
        Check.due("40 by 4", x.shoot(0, 40), 10);
        Check.due("it lasts 40", x.ofScene(0, 3), 520);
        Check.due("others last 40", x.ofScene(1, 3), 560);
        Check.due("81 by 8, rounded up", x.shoot(1, 41), 11);
        Check.due("a later day too", x.ofScene(3, 3), 524);
        Check.due("a shot one lasts what it lasted", x.ofScene(0, 3), 520);
        Check.due("the third", x.ofScene(2, 2), 561);
        Check.due("the third", x.ofScene(2, 3), 605);
        Check.due("82 by 12", x.shoot(2, 1), 7);
        Check.due("SHOT", x.ofScene(2, 0), Stripboard.SHOT);
        Check.due("its day", x.ofScene(2, 1), 0);
    }

    private static void shootRefusals() {
        Stripboard x = with(3);
        x.put(0, 0, 0);
        x.put(1, 1, 0);
        Check.refused("0 minutes", Check.ARGUMENT, () -> x.shoot(0, 0));
        Check.refused("1001 minutes", Check.ARGUMENT, () -> x.shoot(0, 1001));
        Check.refused("no scene", Check.INDEX, () -> x.shoot(3, 0));
        Check.refused("no scene", Check.INDEX, () -> x.shoot(-1, 1));
        Check.refused("another day", Check.STATE, () -> x.shoot(1, 1));
        Check.refused("off", Check.STATE, () -> x.shoot(2, 1));
        Check.refused("argument first", Check.ARGUMENT, () -> x.shoot(2, 0));
        Check.due("nothing was learnt", x.ofScene(1, 3), 540);
        Check.due("1000 minutes", x.shoot(0, 1000), 250);
        Check.refused("shot", Check.STATE, () -> x.shoot(0, 1000));
        x.next();
        Check.refused("shot, and over", Check.STATE, () -> x.shoot(0, 1000));
        Check.due("now", x.shoot(1, 1), 126);
        x.omit(2);
        Check.refused("omitted", Check.STATE, () -> x.shoot(2, 1));
    }

    private static void lose() {
        Stripboard x = with(3);
        for (int i = 0; i < 3; i++) x.put(i, 0, i);
        Check.refused("not shot", Check.STATE, () -> x.lose(0));
        Check.refused("no scene", Check.INDEX, () -> x.lose(3));
        Check.refused("no scene", Check.INDEX, () -> x.lose(-1));
        x.shoot(0, 60);
        x.shoot(1, 60);
        Check.due("one is owed", x.lose(0), 1);
        Check.refused("lost", Check.STATE, () -> x.lose(0));
        Check.due("off", x.ofScene(0, 1), NONE);
        Check.due("the row closes", x.strip(0, 0), 1);
        Check.due("one more", x.next(), 2);
        Check.due("of a day that is over", x.lose(1), 3);
        Check.due("the row is empty", x.strip(0, 0), NONE);
        x.put(0, 1, 0);
        x.shoot(0, 60);
        Check.due("shot again, lost again", x.lose(0), 3);
        x.put(0, 1, 0);
        x.shoot(0, 60);
        x.omit(2);
        Check.due("one, not the omitted one", x.next(), 1);
    }

    private static void loseStillTeaches() {
        Stripboard x = with(2);
        x.put(0, 0, 0);
        x.put(1, 0, 1);
        Check.due("20", x.shoot(0, 80), 20);
        x.lose(0);
        Check.due("still 20", x.ofScene(1, 3), 560);
        x.put(0, 0, 0);
        Check.due("it lasts by its eighths", x.ofScene(0, 3), 560);
        Check.due("100 by 8", x.shoot(0, 20), 13);
    }

    private static void next() {
        Stripboard x = with(4);
        x.put(0, 0, 0);
        x.put(1, 0, 1);
        x.put(2, 0, 2);
        x.put(3, 1, 0);
        x.shoot(1, 60);
        Check.due("two are owed", x.next(), 2);
        Check.due("just the shot one stays", x.strip(0, 0), 1);
        Check.due("just the shot one stays", x.strip(0, 1), NONE);
        Check.due("other days stay", x.ofScene(3, 0), Stripboard.PLACED);
        Check.due("OWED", x.ofScene(2, 0), Stripboard.OWED);
        Check.due("one is put", x.put(0, 2, 0), 0);
        Check.due("placed ones are not owed", x.next(), 2);
        Check.due("now", x.ofScene(0, 0), Stripboard.PLACED);
        Check.due("all but the shot one", x.next(), 3);
    }

    private static void nextToTheEnd() {
        Stripboard x = with(1);
        for (int i = 0; i < 29; i++) Check.due("nothing is owed", x.next(), 0);
        Check.refused("29", Check.STATE, () -> x.next());
        Check.due("29 is not over", x.put(0, 29, 0), 0);
        Check.due("it can be shot", x.shoot(0, 60), 15);
        Check.refused("29", Check.STATE, () -> x.next());
        Check.due("and stays", x.ofScene(0, 0), Stripboard.SHOT);
    }

    private static void payByDay() {
        Stripboard x = work(Stripboard.BY_DAY, 70, 0, 0, 1, 29);
        Check.due("three days", x.pay(0, false), 210);
        Check.due("nothing besides", x.pay(0, true), 0);
        x.take(1);
        Check.due("two days", x.pay(0, false), 140);
        x.put(1, 0, 0);
        Check.due("two scenes on one", x.pay(0, false), 140);
    }

    private static void payByWeek() {
        Check.due("one week", work(Stripboard.BY_WEEK, 70, 0, 0, 6).pay(0, false), 70);
        Check.due("two weeks", work(Stripboard.BY_WEEK, 70, 0, 6, 7).pay(0, false), 140);
        Check.due("of five weeks three", work(Stripboard.BY_WEEK, 70, 0, 1, 5, 15, 28, 29).pay(0, false), 210);
        Check.due("no work", work(Stripboard.BY_WEEK, 70, 0).pay(0, false), 0);
    }

    private static void payForRun() {
        Check.due("no work", work(Stripboard.FOR_RUN, 70, 0).pay(0, false), 0);
        Check.due("one day", work(Stripboard.FOR_RUN, 70, 0, 12).pay(0, false), 70);
        Check.due("3 to 9", work(Stripboard.FOR_RUN, 70, 0, 9, 3).pay(0, false), 490);
        Check.due("3 to 9 by 5", work(Stripboard.FOR_RUN, 70, 0, 9, 5, 3).pay(0, false), 490);
    }

    private static void payForRunGaps() {
        Check.due("10 apart", work(Stripboard.FOR_RUN, 1, 0, 3, 13).pay(0, false), 11);
        Check.due("11 apart", work(Stripboard.FOR_RUN, 1, 0, 3, 14).pay(0, false), 2);
        Check.due("two stretches", work(Stripboard.FOR_RUN, 1, 0, 0, 4, 15, 18).pay(0, false), 9);
        Check.due("10 apart twice", work(Stripboard.FOR_RUN, 1, 0, 0, 10, 20).pay(0, false), 21);
        Check.due("two gaps", work(Stripboard.FOR_RUN, 1, 0, 0, 14, 29).pay(0, false), 3);
    }

    /** From call to wrap more than 600 minutes, by begun hours. */
    private static void payOvertime() {
        int[][] lasts = {{568, 0}, {570, 0}, {571, 1}, {630, 1}, {631, 2}, {690, 2}, {691, 3}};
        for (int[] row : lasts) {
            Stripboard x = work(Stripboard.BY_DAY, 109, 0, 0);
            x.light(0, 0, 0, 1440);
            // A shot scene with one ahead of it, so that lunch counts: 30 minutes of the span.
            x.scene(NONE, 0, true, true, 1);
            x.needs(1, 1);
            x.put(1, 0, 0);
            x.shoot(1, 1);
            x.shoot(0, row[0] - 1);
            Check.due("works " + row[0], x.call(0, 0, true), row[0] + 30);
            Check.due("overtime of " + row[0], x.pay(0, true), 10L * row[1]);
            Check.due("in all of " + row[0], x.pay(0, false), 109 + 10L * row[1]);
        }
        Stripboard y = work(Stripboard.BY_WEEK, 9, 180, 0);
        y.shoot(0, 1000);
        Check.due("a tenth of 9 is 0", y.pay(0, true), 0);
        Stripboard z = work(Stripboard.FOR_RUN, 100, 180, 0);
        z.shoot(0, 421);
        Check.due("601 minutes with 180 to prepare", z.pay(0, true), 10);
    }

    /** A wrap behind 1320, by begun hours. */
    private static void payLate() {
        int[][] lasts = {{120, 0}, {121, 1}, {180, 1}, {181, 2}, {300, 3}};
        for (int[] row : lasts) {
            Stripboard x = work(Stripboard.BY_DAY, 100, 0, 0);
            x.light(0, 1200, 0, 1440);
            x.shoot(0, row[0]);
            Check.due("wrap at " + (1200 + row[0]), x.pay(0, true), 10L * row[1]);
        }
    }

    /** Less than 660 minutes from wrap to call. */
    private static void payShortNight() {
        Stripboard x = work(Stripboard.BY_DAY, 103, 0, 3, 4);
        x.light(3, 1200, 0, 1440);
        for (int start : new int[] {479, 480, 0, 481}) {
            x.light(4, start, 0, 1440);
            Check.due("from 1260 to " + start, x.pay(0, true), start < 480 ? 25 : 0);
        }
        Stripboard y = work(Stripboard.BY_DAY, 103, 1, 3, 4);
        y.light(3, 1200, 0, 1440);
        Check.due("the call counts", y.pay(0, true), 25);
        Check.due("besides the deal", y.pay(0, false), 231);
    }

    private static void payShortNightOverDays() {
        Stripboard x = work(Stripboard.BY_DAY, 100, 0, 3, 5);
        x.light(3, 1200, 0, 1440);
        x.light(5, 0, 0, 1440);
        Check.due("not the day ahead", x.pay(0, true), 0);
        Stripboard y = work(Stripboard.BY_DAY, 100, 0, 0, 1);
        y.shoot(0, 1000);
        // Both from 510 to 1510: 400 minutes over, 190 behind 1320, and 440 to the call.
        Check.due("over midnight", y.pay(0, true), 70 + 40 + 70 + 40 + 25);
    }

    private static void paySixthDay() {
        Check.due("five", work(Stripboard.BY_DAY, 101, 0, 0, 1, 2, 3, 4).pay(0, true), 0);
        Check.due("six", work(Stripboard.BY_DAY, 101, 0, 0, 1, 2, 3, 4, 5).pay(0, true), 50);
        Check.due("seven", work(Stripboard.BY_DAY, 101, 0, 5, 6, 7, 8, 9, 10, 11).pay(0, true), 100);
        Check.due("a day off", work(Stripboard.BY_DAY, 101, 0, 0, 1, 2, 4, 5, 6).pay(0, true), 0);
        Check.due("five of six", work(Stripboard.BY_DAY, 101, 0, 0, 1, 2, 3, 4, 6, 7).pay(0, true), 0);
        Check.due("the last", work(Stripboard.BY_WEEK, 101, 0, 24, 25, 26, 27, 28, 29).pay(0, false), 252);
    }

    private static void payRoundsEach() {
        Stripboard x = work(Stripboard.BY_DAY, 119, 0, 0, 1, 2, 3, 4, 5);
        x.light(4, 1200, 0, 1440);
        x.light(5, 400, 0, 1440);
        Check.due("29 and 59", x.pay(0, true), 29 + 59);
        Stripboard y = work(Stripboard.BY_DAY, 119, 0, 0);
        y.shoot(0, 1000);
        Check.due("seven and four tenths", y.pay(0, true), 11 * 11);
    }

    private static void payRefusals() {
        Stripboard x = work(Stripboard.BY_DAY, 1, 0);
        Check.refused("no person", Check.INDEX, () -> x.pay(1, true));
        Check.refused("no person", Check.INDEX, () -> x.pay(-1, false));
    }

    private static void cost() {
        Stripboard x = work(Stripboard.BY_DAY, 100, 0, 0, 1);
        x.person(Stripboard.BY_WEEK, 700, 0, false);
        x.place(1000);
        x.place(50);
        Check.due("two days", x.cost(), 200);
        x.needs(0, 3);
        Check.due("a week", x.cost(), 900);
        x.scene(NONE, 1, true, true, 1);
        Check.due("off the board", x.cost(), 900);
        x.put(2, 1, 0);
        Check.due("one day of a place", x.cost(), 1900);
        x.scene(NONE, 1, true, true, 1);
        x.put(3, 1, 2);
        Check.due("once a day", x.cost(), 1900);
        x.take(3);
        x.put(3, 2, 0);
        Check.due("two days of it", x.cost(), 2900);
        x.light(1, 1200, 0, 1440);
        // Scene 2 to 1215, a move to 1275, scene 1 to 1335: an hour behind 1320.
        Check.due("with what they have besides", x.cost(), 2910);
        x.omit(3);
        Check.due("omitted", x.cost(), 1910);
    }

    private static void costOfPlaces() {
        Stripboard x = new Stripboard();
        for (int i = 0; i < 6; i++) x.place(i + 1);
        for (int i = 0; i < 12; i++) x.scene(i - 1, i / 2, true, true, 1);
        int sum = 0;
        for (int i = 0; i < 12; i++) {
            x.put(i, i / 2, 0);
            sum += i % 2 == 0 ? i / 2 + 1 : 0;
            Check.due("once a day, by scene " + i, x.cost(), sum);
        }
        x.take(1);
        x.put(1, 29, 0);
        Check.due("the last day", x.cost(), sum + 1);
        x.next();
        Check.due("not owed ones", x.cost(), sum);
    }
}
