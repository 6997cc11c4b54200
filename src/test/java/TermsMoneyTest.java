/** The sentences of the terms on shooting and money, each with its bounds. */
public final class TermsMoneyTest {
    private static final int NONE = Stripboard.NONE;
    private static final int DAY = Stripboard.BY_DAY;

    public static void main(String[] args) {
        theDayOfNowIsNoughtAtFirst();
        aSceneOfItCanBeShot();
        itStaysOnTheDay();
        thoseNotShotAreOwedAtTheEndOfTheDay();
        thenItIsTheNextDay();
        owedPlacedAndOwedAgain();
        untilItIsShot();
        othersAreOpenIfTheyAreOff();
        lostOnesAreOwedAndOff();
        howManyAreOwed();
        byDay();
        byWeek();
        forTheRun();
        moreThanTenDaysApart();
        moreThanSixHundredMinutes();
        behindThirteenTwenty();
        lessThanSixSixtyBehindThatWrap();
        overMidnight();
        onTheDayAhead();
        onTheFiveDaysAhead();
        eachRoundedDown();
        besidesForEveryDeal();
        justWhatTheyHaveBesides();
        aPlaceCostsForEachDay();
        byTheBoardAsItIs();
        allCosts();
        Check.end("TermsMoneyTest");
    }

    /** A person alone, with a scene on each of the days. */
    private static Stripboard work(int deal, int rate, int prepare, int... days) {
        Stripboard x = Film.of(1, days.length);
        x.person(deal, rate, prepare, false);
        for (int i = 0; i < days.length; i++) {
            x.needs(i, 1);
            x.put(i, days[i], 0);
        }
        return x;
    }

    private static void pays(String what, Stripboard x, int all, int more) {
        Check.due(what + ", all", x.pay(0, false), all);
        Check.due(what + ", besides", x.pay(0, true), more);
        Check.due(what + ", cost", x.cost(), all);
    }

    /** "The day of now is 0 at first." */
    private static void theDayOfNowIsNoughtAtFirst() {
        Stripboard x = Film.of(1, 2);
        Check.due("not over", x.put(0, 0, 0), 0);
        x.put(1, 1, 0);
        Check.refused("the day 1 is not that of now", Check.STATE, () -> x.shoot(1, 15));
        Check.due("the day 0 is", x.shoot(0, 15), 15);
    }

    /** "A scene of it can be shot, with the minutes that it lasted": 1 to 1000, each of 8, once. */
    private static void aSceneOfItCanBeShot() {
        Stripboard x = Film.of(1, 8);
        for (int i = 0; i < 8; i++) x.put(i, 0, i);
        int[] minutes = {1, 2, 999, 1000, 1, 1, 1, 1};
        int[] eighth = {1, 2, 334, 501, 401, 334, 287, 251};
        for (int i = 0; i < 8; i++) {
            int scene = i;
            Check.refused("0", Check.ARGUMENT, () -> x.shoot(scene, 0));
            Check.refused("1001", Check.ARGUMENT, () -> x.shoot(scene, 1001));
            Check.due("an eighth", x.shoot(i, minutes[i]), eighth[i]);
            Check.refused("once", Check.STATE, () -> x.shoot(scene, 1));
        }
        for (int i = 0; i < 8; i++) Check.due("lasted", x.ofScene(i, 3) - x.ofScene(i, 2), minutes[i]);
    }

    /** "it stays on the day": when the day has ended, too, to the last day. */
    private static void itStaysOnTheDay() {
        Stripboard x = Film.of(1, 1);
        x.put(0, 0, 0);
        x.shoot(0, 20);
        for (int day = 0; day < 29; day++) {
            Check.due("its day", x.ofScene(0, 1), 0);
            Check.due("SHOT", x.ofScene(0, 0), Stripboard.SHOT);
            Check.due("there", x.strip(0, 0), 0);
            x.next();
        }
        Check.due("ends", x.ofScene(0, 3), 500);
    }

    /** "At the end of the day its scenes that were not shot are OWED, and off the board": none, some, or all 8. */
    private static void thoseNotShotAreOwedAtTheEndOfTheDay() {
        for (int shot = 0; shot < 256; shot += 17) {
            Stripboard x = Film.of(1, 9);
            for (int i = 0; i < 8; i++) x.put(i, 0, i);
            x.put(8, 1, 0);
            for (int i = 0; i < 8; i++) if ((shot >> i & 1) != 0) x.shoot(i, 15);
            Check.due("owed", x.next(), 8 - Integer.bitCount(shot));
            int at = 0;
            for (int i = 0; i < 8; i++) {
                boolean stays = (shot >> i & 1) != 0;
                Check.due("how it is", x.ofScene(i, 0), stays ? Stripboard.SHOT : Stripboard.OWED);
                Check.due("its day", x.ofScene(i, 1), stays ? 0 : NONE);
                if (stays) Check.due("in its order", x.strip(0, at++), i);
            }
            Check.due("no more", x.strip(0, at), NONE);
            Check.due("of the next day", x.ofScene(8, 0), Stripboard.PLACED);
        }
        Check.due("no scenes", Film.of(1, 0).next(), 0);
        Check.due("none on the day", Film.of(1, 1).next(), 0);
    }

    /** "then it is the next day": to 29, behind which there is none. */
    private static void thenItIsTheNextDay() {
        Stripboard x = Film.of(1, 1);
        for (int day = 0; day < 30; day++) {
            int now = day;
            if (day > 0) Check.refused("over", Check.STATE, () -> x.put(0, now - 1, 0));
            if (day > 0) Check.refused("over", Check.STATE, () -> x.mend(now - 1));
            Check.due("not over", x.mend(day), 0);
            Check.due("not over", x.put(0, day, 0), 0);
            Check.due("that of now", x.shoot(0, 15), 15);
            Check.due("lost", x.lose(0), 1);
            if (day < 29) Check.due("still owed", x.next(), 1);
        }
        x.put(0, 29, 0);
        Check.refused("it is 29", Check.STATE, x::next);
        Check.due("still placed", x.ofScene(0, 0), Stripboard.PLACED);
        Check.due("still 29", x.shoot(0, 15), 15);
    }

    /** "An OWED scene is PLACED on the board, and OWED again, if it is taken off" */
    private static void owedPlacedAndOwedAgain() {
        Stripboard x = Film.of(1, 1);
        Film.person(x, DAY, 1);
        x.needs(0, 1);
        x.put(0, 0, 0);
        x.next();
        for (int i = 0; i < 3; i++) {
            Check.due("OWED", x.ofScene(0, 0), Stripboard.OWED);
            if (i < 2) x.put(0, 20, 0);
            else x.fill();
            Check.due("PLACED", x.ofScene(0, 0), Stripboard.PLACED);
            if (i != 1) x.take(0);
            else {
                for (int day = 0; day < 30; day++) x.ill(0, day, true);
                x.mend(20);
                for (int day = 0; day < 30; day++) x.ill(0, day, false);
            }
        }
        Check.due("OWED", x.ofScene(0, 0), Stripboard.OWED);
        x.omit(0);
        Check.due("OMITTED", x.ofScene(0, 0), Stripboard.OMITTED);
    }

    /** "until it is shot": it is owed no more then, until it is lost. */
    private static void untilItIsShot() {
        Stripboard x = Film.of(1, 2);
        x.put(0, 0, 0);
        Check.due("owed", x.next(), 1);
        x.put(0, 1, 0);
        x.shoot(0, 15);
        Check.due("SHOT", x.ofScene(0, 0), Stripboard.SHOT);
        Check.due("none is owed", x.next(), 0);
        Check.due("lost", x.lose(0), 1);
        Check.due("OWED", x.ofScene(0, 0), Stripboard.OWED);
    }

    /** "others are OPEN, if they are off": at first, and taken off again. */
    private static void othersAreOpenIfTheyAreOff() {
        Stripboard x = Film.of(1, 1);
        for (int i = 0; i < 3; i++) {
            Check.due("OPEN", x.ofScene(0, 0), Stripboard.OPEN);
            Check.due("none is owed", x.next(), 0);
            x.put(0, 20, 0);
            Check.due("PLACED", x.ofScene(0, 0), Stripboard.PLACED);
            x.take(0);
        }
    }

    /** "A scene whose dailies are lost is shot no more, and OWED, and off the board." */
    private static void lostOnesAreOwedAndOff() {
        Stripboard x = Film.of(1, 3);
        for (int i = 0; i < 3; i++) {
            x.put(i, 0, i);
            x.shoot(i, 30);
        }
        x.next();
        Check.due("of a day that is over", x.lose(1), 1);
        Film.row("the row closes", x, 0, 0, 2);
        Check.due("the next begins earlier", x.ofScene(2, 2), 510);
        for (int what = 1; what < 5; what++) Check.due("on no day", x.ofScene(1, what), NONE);
        Check.refused("shot no more", Check.STATE, () -> x.lose(1));
        Check.due("it can be omitted", x.omit(1), 2);
        Check.due("and another one put", x.lose(2), 1);
        Check.due("put", x.put(2, 1, 0), 0);
        Check.due("it lasts by its eighths again", x.ofScene(2, 3), 510);
    }

    /** "Returns how many scenes are OWED": 0 to 20, but for those that are placed or omitted. */
    private static void howManyAreOwed() {
        Stripboard x = Film.of(1, 20);
        for (int i = 0; i < 20; i++) {
            x.put(i, i / 8, 0);
            if (i % 8 == 7 || i == 19) Check.due("owed", x.next(), i + 1);
        }
        x.put(19, 3, 0);
        Check.due("one is placed", x.next(), 20);
        x.put(19, 29, 0);
        x.omit(18);
        Check.due("one is placed, one omitted", x.next(), 18);
        x.put(0, 5, 0);
        x.shoot(0, 1);
        Check.due("lost again", x.lose(0), 18);
    }

    /** "By DAY a person has the rate for each day on which they work": once a day, 0 to 20 days. */
    private static void byDay() {
        Stripboard x = work(DAY, 10, 0);
        pays("no work", x, 0, 0);
        pays("one day", work(DAY, 10, 0, 29), 10, 0);
        pays("one day twice", work(DAY, 10, 0, 3, 3), 10, 0);
        pays("20 days", work(DAY, 1, 0, 0, 1, 2, 3, 4, 6, 7, 8, 9, 10, 12, 13, 14, 15, 16, 18, 19, 20, 21, 29), 20, 0);
    }

    /** "by WEEK the rate for each week, of 7 days from 0 on, in which they do": 0 to 6, to 28 and 29. */
    private static void byWeek() {
        pays("no work", work(Stripboard.BY_WEEK, 10, 0), 0, 0);
        for (int day = 0; day < 30; day++) {
            for (int other = 0; other < 30; other++) {
                int weeks = day / 7 == other / 7 ? 1 : 2;
                pays("the days " + day + " and " + other, work(Stripboard.BY_WEEK, 10, 0, day, other), 10 * weeks, 0);
            }
        }
        pays("the five weeks", work(Stripboard.BY_WEEK, 10, 0, 0, 6, 7, 13, 14, 20, 21, 27, 28, 29), 50, 0);
    }

    /** "for the RUN the rate for each day from the first to the last on which they work": both count. */
    private static void forTheRun() {
        pays("no work", work(Stripboard.FOR_RUN, 10, 0), 0, 0);
        for (int day = 0; day < 30; day++) pays("one day", work(Stripboard.FOR_RUN, 10, 0, day), 10, 0);
        for (int last = 1; last <= 10; last++) pays("from 0 on", work(Stripboard.FOR_RUN, 10, 0, 0, last), 10 * last + 10, 0);
        pays("all 30", work(Stripboard.FOR_RUN, 10, 0, 0, 10, 20, 29), 300, 0);
    }

    /** "but for those between two of these that are more than 10 days apart": 10 are paid, 11 are not. */
    private static void moreThanTenDaysApart() {
        for (int apart = 9; apart <= 29; apart++) {
            int due = apart > 10 ? 20 : 10 * apart + 10;
            pays(apart + " days apart", work(Stripboard.FOR_RUN, 10, 0, 0, apart), due, 0);
            pays(apart + " days apart, to the last", work(Stripboard.FOR_RUN, 10, 0, 29 - apart, 29), due, 0);
        }
        pays("twice", work(Stripboard.FOR_RUN, 10, 0, 2, 13, 24), 30, 0);
        pays("once", work(Stripboard.FOR_RUN, 10, 0, 2, 12, 23), 120, 0);
        pays("a run behind", work(Stripboard.FOR_RUN, 10, 0, 2, 13, 17), 60, 0);
        pays("by one between", work(Stripboard.FOR_RUN, 10, 0, 2, 8, 13), 120, 0);
    }

    /** "for each hour of more than 600 minutes between call and wrap, begun ones too, a tenth of the rate" */
    private static void moreThanSixHundredMinutes() {
        int[][] minutesAndHours = {{599, 0}, {600, 0}, {601, 1}, {602, 1}, {659, 1}, {660, 1}, {661, 2}, {720, 2},
            {721, 3}, {1000, 7}};
        for (int[] row : minutesAndHours) {
            for (int prepare : new int[] {0, 1, 180}) {
                Stripboard x = work(DAY, 100, prepare, 0);
                x.light(0, 240, 0, 1440);
                x.shoot(0, row[0] - prepare);
                pays(row[0] + " minutes", x, 100 + 10 * row[1], 10 * row[1]);
            }
        }
        Stripboard x = Film.of(1, 3);
        Film.person(x, DAY, 100);
        x.light(0, 0, 0, 1440);
        for (int i = 0; i < 3; i++) x.put(i, 0, i);
        x.needs(0, 1);
        x.needs(2, 1);
        x.shoot(0, 100);
        x.shoot(1, 370);
        x.shoot(2, 100);
        pays("100, 30 of lunch, 370, 100", x, 100, 0);
        Stripboard y = Film.of(1, 3);
        Film.person(y, DAY, 100);
        y.light(0, 0, 0, 1440);
        for (int i = 0; i < 3; i++) y.put(i, 0, i);
        y.needs(0, 1);
        y.needs(2, 1);
        y.shoot(0, 100);
        y.shoot(1, 371);
        y.shoot(2, 100);
        pays("a minute between them", y, 110, 10);
    }

    /** "for each hour, begun ones too, of the wrap behind 1320, a tenth likewise": besides that of more than 600. */
    private static void behindThirteenTwenty() {
        int[][] minutesAndHours = {{119, 0}, {120, 0}, {121, 1}, {179, 1}, {180, 1}, {181, 2}, {240, 2}, {241, 3},
            {360, 4}};
        for (int[] row : minutesAndHours) {
            Stripboard x = work(DAY, 100, 0, 0);
            x.light(0, 1200, 0, 1440);
            x.shoot(0, row[0]);
            pays("wrap at " + (1200 + row[0]), x, 100 + 10 * row[1], 10 * row[1]);
        }
        Stripboard x = work(DAY, 100, 0, 0);
        x.light(0, 1200, 0, 1440);
        x.shoot(0, 601);
        pays("1230 to 1831: 9 hours behind 1320, and one of more than 600", x, 200, 100);
    }

    /** "and the call is less than 660 minutes behind that wrap": 660 are enough. */
    private static void lessThanSixSixtyBehindThatWrap() {
        // The wrap is at 1215: 660 minutes behind it are 435.
        int[][] callAndTimes = {{0, 1}, {434, 1}, {435, 0}, {436, 0}, {1200, 0}};
        for (int[] row : callAndTimes) {
            Stripboard x = work(DAY, 100, 0, 3, 4);
            x.light(3, 1200, 0, 1440);
            x.light(4, row[0], 0, 1440);
            pays("from 1215 to " + row[0], x, 200 + 25 * row[1], 25 * row[1]);
        }
        for (int prepare : new int[] {0, 1, 180}) {
            Stripboard x = work(DAY, 100, prepare, 3, 4);
            x.light(3, 1200, 0, 1440);
            x.light(4, 434 + prepare, 0, 1440);
            pays("659 minutes to the call", x, 225, 25);
            x.light(4, 435 + prepare, 0, 1440);
            pays("660 minutes to the call", x, 200, 0);
        }
    }

    /** "over midnight": of a wrap above 1440, and a call below 0, too. */
    private static void overMidnight() {
        int[][] lastsAndStart = {{300, 720}, {300, 719}, {239, 659}, {239, 658}, {241, 661}, {241, 660}};
        for (int[] row : lastsAndStart) {
            Stripboard x = work(DAY, 100, 0, 0, 1);
            x.light(0, 1200, 0, 1440);
            x.shoot(0, row[0]);
            x.light(1, row[1], 0, 1440);
            int late = 10 * ((row[0] - 120 + 59) / 60);
            int night = row[1] + 240 - row[0] < 660 ? 25 : 0;
            Check.due("wrap " + (1200 + row[0]) + " to " + row[1], x.pay(0, true) - late - lateOf(x, 1), night);
        }
        Stripboard y = work(DAY, 100, 180, 0, 1);
        y.light(1, 0, 0, 1440);
        y.shoot(0, 120);
        // The wrap is at 600, and the call at -180, which is 1260 of that day.
        pays("660 minutes to a call below 0", y, 200, 0);
        y.light(0, 481, 0, 1440);
        pays("659 minutes to a call below 0", y, 225, 25);
    }

    /** What the wrap of a day behind 1320 gives at a rate of 100. */
    private static int lateOf(Stripboard x, int day) {
        return 10 * Math.max(0, (x.call(0, day, true) - 1320 + 59) / 60);
    }

    /** "if they worked on the day ahead": not on one further ahead, nor none at all. */
    private static void onTheDayAhead() {
        for (int ahead = 0; ahead < 5; ahead++) {
            Stripboard x = work(DAY, 100, 0, ahead, 4);
            x.light(ahead, 1200, 0, 1440);
            x.light(4, ahead == 4 ? 1200 : 0, 0, 1440);
            int days = ahead == 4 ? 1 : 2;
            pays("on " + ahead + " and 4", x, 100 * days + (ahead == 3 ? 25 : 0), ahead == 3 ? 25 : 0);
        }
        Stripboard x = work(DAY, 100, 0, 0);
        x.light(0, 0, 0, 1440);
        pays("on the first day", x, 100, 0);
        Stripboard y = Film.of(1, 2);
        for (int i = 0; i < 2; i++) {
            Film.person(y, DAY, 100);
            y.needs(i, 1 << i);
            y.put(i, i, 0);
        }
        y.light(0, 1200, 0, 1440);
        y.light(1, 0, 0, 1440);
        for (int i = 0; i < 2; i++) Check.due("another one did", y.pay(i, true), 0);
        Stripboard z = work(DAY, 100, 0, 28, 29);
        z.light(28, 1200, 0, 1440);
        z.light(29, 0, 0, 1440);
        pays("the last night", z, 225, 25);
    }

    /** "if they worked on the five days ahead, half of it": on the sixth, the seventh, and so on. */
    private static void onTheFiveDaysAhead() {
        for (int many = 1; many <= 20; many++) {
            int[] days = new int[many];
            for (int i = 0; i < many; i++) days[i] = 29 - i;
            int more = 50 * Math.max(0, many - 5);
            pays(many + " days to the last", work(DAY, 100, 0, days), 100 * many + more, more);
        }
        for (int off = 0; off < 6; off++) {
            int[] days = new int[6];
            for (int i = 0; i < 6; i++) days[i] = i < off ? i : i + 1;
            int more = off == 0 ? 50 : 0;
            pays("7 days but " + off, work(DAY, 100, 0, days), 600 + more, more);
        }
        pays("from the first day on", work(DAY, 100, 0, 0, 1, 2, 3, 4, 5), 650, 50);
    }

    /** "each rounded down": a tenth, a quarter and a half, each by itself. */
    private static void eachRoundedDown() {
        for (int rate : new int[] {1, 2, 3, 4, 5, 7, 9, 10, 11, 19, 20, 99, 999, 1000}) {
            Stripboard x = work(DAY, rate, 0, 0);
            x.shoot(0, 721);
            // 510 to 1231: three hours.
            pays("a tenth of " + rate, x, rate + 3 * (rate / 10), 3 * (rate / 10));
            Stripboard y = work(DAY, rate, 0, 0);
            y.light(0, 1200, 0, 1440);
            y.shoot(0, 300);
            pays("a tenth of " + rate, y, rate + 3 * (rate / 10), 3 * (rate / 10));
            Stripboard z = work(DAY, rate, 0, 0, 1, 2, 3, 4, 5);
            pays("a half of " + rate, z, 6 * rate + rate / 2, rate / 2);
            z.light(4, 1200, 0, 1440);
            z.light(5, 0, 0, 1440);
            pays("a quarter of " + rate, z, 6 * rate + rate / 2 + rate / 4, rate / 2 + rate / 4);
        }
    }

    /** "Besides, on each day on which they work": whatever the deal. */
    private static void besidesForEveryDeal() {
        for (int deal = 0; deal < 3; deal++) {
            Stripboard x = work(deal, 100, 0, 7, 8, 9, 10, 11, 12, 13);
            for (int day = 7; day < 14; day++) x.light(day, day % 2 == 1 ? 1200 : 0, 0, 1440);
            // Three nights from 1215 to 0, a sixth day and a seventh.
            int more = 3 * 25 + 2 * 50;
            pays("deal " + deal, x, (deal == Stripboard.BY_WEEK ? 100 : 700) + more, more);
        }
    }

    /** "whether just what they have besides the deal" */
    private static void justWhatTheyHaveBesides() {
        Stripboard x = work(Stripboard.FOR_RUN, 1000, 0, 0, 5);
        pays("nothing besides", x, 6000, 0);
        x.shoot(0, 1000);
        // 510 to 1510: seven hours of more than 600 minutes, and four behind 1320; the other scene lasts 500.
        x.light(5, 1200, 0, 1440);
        x.take(1);
        pays("one day", x, 1000 + 1100, 1100);
    }

    /** "A place costs for each day on which a scene is there": once a day, whatever it is used for. */
    private static void aPlaceCostsForEachDay() {
        Stripboard x = new Stripboard();
        for (int i = 0; i < 6; i++) x.place(1 << i);
        for (int i = 0; i < 20; i++) x.scene(NONE, i % 6, i % 2 == 0, i % 3 == 0, 1);
        Check.due("none", x.cost(), 0);
        for (int i = 0; i < 6; i++) {
            x.put(i, 7, 0);
            Check.due("one more", x.cost(), (2 << i) - 1);
        }
        for (int i = 6; i < 8; i++) {
            x.put(i, 7, 0);
            Check.due("there already", x.cost(), 63);
        }
        for (int i = 8; i < 20; i++) x.put(i, i, 0);
        Check.due("other days", x.cost(), 63 + 2 * 63);
        x.take(0);
        Check.due("still one there", x.cost(), 189);
        x.take(6);
        Check.due("none there", x.cost(), 188);
        x.omit(1);
        x.omit(7);
        Check.due("omitted", x.cost(), 186);
    }

    /** "Work is looked at by the board as it is": past days by what is on them, days to come by what is planned. */
    private static void byTheBoardAsItIs() {
        Stripboard x = work(DAY, 100, 0, 0, 1, 29);
        pays("as it is planned", x, 300, 0);
        x.next();
        pays("one is owed", x, 200, 0);
        x.shoot(1, 15);
        x.next();
        pays("one is shot", x, 200, 0);
        x.lose(1);
        pays("lost", x, 100, 0);
        x.needs(2, 0);
        pays("not needed any more", x, 0, 0);
        x.needs(2, 1);
        x.ill(0, 29, true);
        x.permit(0, 29, false);
        pays("with faults", x, 100, 0);
    }

    /** "Returns what all costs, people and places": nothing at first, and the sum of all eight and all six. */
    private static void allCosts() {
        Check.due("nothing", new Stripboard().cost(), 0);
        Stripboard x = new Stripboard();
        for (int i = 0; i < 6; i++) x.place(1000);
        for (int i = 0; i < 8; i++) Film.person(x, i % 3, 1000);
        Check.due("nobody works", x.cost(), 0);
        x.scene(NONE, 5, true, true, 1);
        x.put(0, 29, 0);
        Check.due("a place", x.cost(), 1000);
        for (int i = 0; i < 8; i++) {
            x.needs(0, (2 << i) - 1);
            Check.due("and people", x.cost(), 1000 * (i + 2));
        }
        for (int i = 1; i < 20; i++) {
            x.scene(NONE, i % 6, true, true, 32);
            x.needs(i, 255);
            x.put(i, i, 0);
        }
        int all = 0;
        for (int i = 0; i < 8; i++) all += x.pay(i, false);
        Check.due("20 days of a place, and all that people have", x.cost(), 20000 + all);
    }
}
