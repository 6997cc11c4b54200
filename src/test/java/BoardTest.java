/** Promises 16 to 22: putting and taking, filling and mending, strips, numbers of scenes, calls. */
public final class BoardTest {
    private static final int NONE = Stripboard.NONE;

    public static void main(String[] args) {
        putAndStrip();
        putRefusals();
        putFullDay();
        faultPlace();
        faultIll();
        faultChild();
        faultChildOverScenes();
        faultManyChildren();
        faultBound();
        faultBoundToMany();
        faultBoundShotOrOmitted();
        faultTooLong();
        faultsToTheMinute();
        faultsSum();
        take();
        lunch();
        lunchAheadOfFirst();
        fillFirstDay();
        fillInStoryOrder();
        fillFreed();
        fillLeaves();
        fillGoesOn();
        fillSparesFaultless();
        fillTriesOnce();
        fillFromNow();
        fillFullDays();
        fillAtEndOfRow();
        mend();
        mendOrder();
        mendLeaves();
        mendShotStays();
        mendRefusals();
        strip();
        ofScene();
        ofSceneStates();
        call();
        Check.end("BoardTest");
    }

    /** A board with two places, three people (1 is a child) and scenes of four eighths, inside, in a row. */
    private static Stripboard with(int scenes) {
        Stripboard x = new Stripboard();
        x.place(10);
        x.place(20);
        x.person(0, 100, 30, false);
        x.person(0, 100, 0, true);
        x.person(0, 100, 180, false);
        for (int i = 0; i < scenes; i++) x.scene(i - 1, 0, true, true, 4);
        return x;
    }

    private static void row(String what, Stripboard x, int day, int... scenes) {
        for (int at = 0; at < scenes.length; at++) Check.due(what + ", day " + day + " at " + at, x.strip(day, at), scenes[at]);
        Check.due(what + ", day " + day + " behind", x.strip(day, scenes.length), NONE);
    }

    private static void putAndStrip() {
        Stripboard x = with(4);
        Check.due("on an empty day", x.put(2, 29, 0), 0);
        Check.due("at the end", x.put(0, 29, 1), 0);
        Check.due("ahead", x.put(3, 29, 0), 0);
        Check.due("between", x.put(1, 29, 2), 0);
        row("put", x, 29, 3, 2, 1, 0);
        row("empty", x, 0);
    }

    private static void putRefusals() {
        Stripboard x = with(4);
        x.put(0, 1, 0);
        Check.refused("no scene", Check.INDEX, () -> x.put(4, 1, 0));
        Check.refused("no scene", Check.INDEX, () -> x.put(-1, 1, 0));
        Check.refused("day 30", Check.INDEX, () -> x.put(1, 30, 0));
        Check.refused("day -1", Check.INDEX, () -> x.put(1, -1, 0));
        Check.refused("at -1", Check.INDEX, () -> x.put(1, 1, -1));
        Check.refused("at 2", Check.INDEX, () -> x.put(1, 1, 2));
        Check.refused("at the highest", Check.INDEX, () -> x.put(1, 1, Integer.MAX_VALUE));
        Check.refused("on the board", Check.STATE, () -> x.put(0, 2, 0));
        Check.refused("index first", Check.INDEX, () -> x.put(0, 2, 1));
        x.omit(1);
        Check.refused("omitted", Check.STATE, () -> x.put(1, 2, 0));
        x.put(2, 0, 0);
        x.shoot(2, 60);
        Check.refused("shot", Check.STATE, () -> x.put(2, 1, 0));
        x.next();
        Check.refused("over", Check.STATE, () -> x.put(3, 0, 0));
        Check.refused("over, at 2", Check.INDEX, () -> x.put(3, 0, 2));
        row("nothing changed", x, 0, 2);
        row("nothing changed", x, 1, 0);
        row("nothing changed", x, 2);
        Check.due("that of now", x.put(3, 1, 1), 0);
    }

    private static void putFullDay() {
        Stripboard x = with(9);
        for (int i = 0; i < 8; i++) Check.due("put", x.put(i, 3, 0), 0);
        Check.refused("a ninth", Check.STATE, () -> x.put(8, 3, 8));
        Check.refused("a ninth", Check.STATE, () -> x.put(8, 3, 0));
        Check.refused("at 9", Check.INDEX, () -> x.put(8, 3, 9));
        row("full", x, 3, 7, 6, 5, 4, 3, 2, 1, 0);
        x.take(4);
        Check.due("eight again", x.put(8, 3, 3), 0);
        row("full", x, 3, 7, 6, 5, 8, 3, 2, 1, 0);
    }

    private static void faultPlace() {
        Stripboard x = with(1);
        x.permit(0, 4, false);
        x.permit(1, 5, false);
        Check.due("not allowed", x.put(0, 4, 0), 1);
        x.take(0);
        Check.due("another place", x.put(0, 5, 0), 0);
        x.permit(0, 5, false);
        Check.due("told later", x.ofScene(0, 4), 1);
    }

    private static void faultIll() {
        Stripboard x = with(2);
        x.needs(0, 5);
        x.ill(2, 4, true);
        x.ill(1, 4, true);
        Check.due("one of two is ill", x.put(0, 4, 0), 4);
        Check.due("nobody is needed", x.put(1, 4, 1), 0);
        x.ill(2, 4, false);
        Check.due("well again", x.ofScene(0, 4), 0);
    }

    private static void faultChild() {
        Stripboard x = with(0);
        x.scene(NONE, 0, true, true, 30);
        x.scene(NONE, 0, true, true, 32);
        x.needs(0, 2);
        x.needs(1, 1);
        Check.due("450 minutes", x.put(0, 0, 0), 0);
        Check.due("480 minutes and no child", x.put(1, 1, 0), 0);
        x.take(1);
        x.needs(1, 2);
        Check.due("480 minutes of a child", x.put(1, 1, 0), 0);
        x.shoot(0, 481);
        Check.due("481 minutes, and an eighth lasts 17", x.ofScene(0, 4), 8);
        Check.due("544 minutes", x.ofScene(1, 4), 8);
        Stripboard y = with(0);
        y.person(0, 1, 30, true);
        y.person(0, 1, 31, true);
        y.scene(NONE, 0, true, true, 30);
        y.needs(0, 8);
        Check.due("450 and 30 to prepare", y.put(0, 0, 0), 0);
        y.needs(0, 16);
        Check.due("450 and 31 to prepare", y.ofScene(0, 4), 8);
    }

    private static void faultChildOverScenes() {
        Stripboard x = with(0);
        x.scene(NONE, 0, true, true, 4);
        x.scene(0, 0, true, true, 24);
        x.scene(1, 0, true, true, 4);
        x.needs(0, 2);
        x.needs(1, 1);
        x.needs(2, 3);
        x.put(0, 0, 0);
        x.put(1, 0, 1);
        Check.due("60, 30, 360, 60: 510 minutes", x.put(2, 0, 2), 8);
        Check.due("each that needs the child", x.ofScene(0, 4), 8);
        Check.due("the other does not", x.ofScene(1, 4), 0);
    }

    private static void faultManyChildren() {
        Stripboard x = new Stripboard();
        x.place(0);
        for (int i = 0; i < 3; i++) x.person(0, 100, 31, i != 1);
        for (int i = 0; i < 3; i++) {
            x.scene(i - 1, 0, true, true, 10);
            x.needs(i, 1 << i);
            x.put(i, 0, i);
        }
        for (int i = 0; i < 3; i++) Check.due("short", x.ofScene(i, 4), 0);
        x.needs(0, 5);
        Check.due("the last of both is behind", x.ofScene(0, 4), 8);
        x.needs(2, 5);
        for (int i = 0; i < 3; i++) Check.due("both children", x.ofScene(i, 4), i == 1 ? 0 : 8);
        x.needs(1, 1);
        Check.due("just the first of both", x.ofScene(1, 4), 8);
        x.needs(1, 2);
        x.needs(0, 1);
        x.needs(2, 1);
        for (int i = 0; i < 3; i++) Check.due("the first child", x.ofScene(i, 4), i == 1 ? 0 : 8);
    }

    private static void faultBound() {
        Stripboard x = with(3);
        x.bind(0, 1);
        Check.due("the other is off", x.put(0, 5, 0), 16);
        Check.due("the other on the same day behind", x.put(1, 5, 1), 0);
        Check.due("still a fault", x.ofScene(0, 4), 16);
        x.take(1);
        x.put(1, 5, 0);
        Check.due("ahead on the same", x.ofScene(0, 4), 0);
        x.take(1);
        x.put(1, 4, 0);
        Check.due("on an earlier day", x.ofScene(0, 4), 0);
        x.take(1);
        x.put(1, 6, 0);
        Check.due("on a later day", x.ofScene(0, 4), 16);
        x.take(1);
        x.put(1, 4, 0);
        x.bind(0, 2);
        Check.due("one of two", x.ofScene(0, 4), 16);
        Check.due("the other one is bound to nothing", x.ofScene(1, 4), 0);
    }

    private static void faultBoundToMany() {
        Stripboard x = with(5);
        for (int i = 0; i < 4; i++) x.bind(4, i);
        for (int i = 0; i < 3; i++) x.put(i, 5, i);
        Check.due("one is off", x.put(4, 5, 3), 16);
        x.put(3, 5, 0);
        Check.due("all ahead on the same", x.ofScene(4, 4), 0);
        x.take(2);
        x.put(2, 5, 4);
        Check.due("one is behind", x.ofScene(4, 4), 16);
    }

    private static void faultBoundShotOrOmitted() {
        Stripboard x = with(3);
        x.bind(0, 1);
        x.bind(0, 2);
        x.put(0, 0, 0);
        x.put(1, 0, 1);
        x.shoot(1, 60);
        Check.due("one was shot, one is off", x.ofScene(0, 4), 16);
        x.omit(2);
        Check.due("shot and omitted", x.ofScene(0, 4), 0);
        x.lose(1);
        Check.due("lost is shot no more", x.ofScene(0, 4), 16);
        x.put(1, 0, 0);
        Check.due("on the board again", x.ofScene(0, 4), 0);
    }

    private static void faultTooLong() {
        Stripboard x = with(0);
        x.scene(NONE, 0, true, true, 32);
        x.scene(0, 0, true, true, 14);
        x.scene(1, 0, true, true, 1);
        x.put(0, 0, 0);
        Check.due("480, 30, 210 minutes: 720", x.put(1, 0, 1), 0);
        x.take(1);
        x.put(2, 0, 1);
        Check.due("735 minutes", x.put(1, 0, 2), 32);
        Check.due("each of the day", x.ofScene(0, 4), 32);
        Check.due("each of the day", x.ofScene(2, 4), 32);
        x.light(0, 1200, 0, 1440);
        Check.due("from the start on", x.ofScene(0, 4), 32);
        x.take(2);
        Check.due("from the start on", x.ofScene(0, 4), 0);
    }

    /** Scenes that were shot last to the minute. */
    private static void faultsToTheMinute() {
        Stripboard x = with(0);
        x.scene(NONE, 0, true, false, 1);
        x.scene(0, 0, true, true, 1);
        x.put(0, 0, 0);
        x.shoot(0, 570);
        Check.due("ends at 1080", x.ofScene(0, 4), 0);
        x.next();
        x.put(1, 1, 0);
        x.shoot(1, 690);
        Check.due("720 minutes", x.ofScene(1, 4), 0);
        Stripboard y = with(0);
        y.scene(NONE, 0, true, false, 1);
        y.scene(0, 0, true, true, 1);
        y.put(0, 0, 0);
        y.shoot(0, 571);
        Check.due("ends at 1081", y.ofScene(0, 4), 2);
        y.next();
        y.put(1, 1, 0);
        y.shoot(1, 691);
        Check.due("721 minutes", y.ofScene(1, 4), 32);
    }

    private static void faultsSum() {
        Stripboard x = with(0);
        x.scene(NONE, 0, true, false, 32);
        x.scene(0, 1, true, true, 32);
        x.needs(0, 2);
        x.ill(1, 3, true);
        x.permit(0, 3, false);
        x.bind(0, 1);
        x.light(3, 0, 1, 1440);
        x.put(1, 3, 0);
        Check.due("all but the light: it begins in it", x.put(0, 3, 0), 1 + 4 + 16 + 32);
        x.take(1);
        Check.due("begins behind lunch", x.ofScene(0, 2), 30);
        x.light(3, 1200, 0, 1440);
        x.put(1, 3, 1);
        x.needs(1, 2);
        Check.due("all", x.ofScene(0, 4), 63);
        Check.due("the other", x.ofScene(1, 4), 4 + 8 + 32);
    }

    private static void take() {
        Stripboard x = with(3);
        x.put(0, 7, 0);
        x.put(1, 7, 1);
        x.put(2, 7, 2);
        Check.due("its day", x.take(1), 7);
        row("the row closes", x, 7, 0, 2);
        Check.refused("off", Check.STATE, () -> x.take(1));
        Check.refused("no scene", Check.INDEX, () -> x.take(3));
        Check.refused("no scene", Check.INDEX, () -> x.take(-1));
        Check.due("OPEN", x.ofScene(1, 0), Stripboard.OPEN);
        x.take(0);
        x.put(0, 0, 0);
        x.shoot(0, 1);
        Check.refused("shot", Check.STATE, () -> x.take(0));
        x.omit(1);
        Check.refused("omitted", Check.STATE, () -> x.take(1));
        row("nothing changed", x, 0, 0);
    }

    private static void lunch() {
        Stripboard x = with(0);
        x.scene(NONE, 0, true, true, 23);
        x.scene(0, 0, true, true, 1);
        x.scene(1, 0, true, true, 1);
        x.scene(2, 0, true, true, 30);
        for (int i = 0; i < 4; i++) x.put(i, 0, i);
        Check.due("ends 360 behind the start", x.ofScene(1, 3), 840);
        Check.due("lunch", x.ofScene(2, 2), 870);
        Check.due("just one", x.ofScene(3, 2), 885);
        Stripboard y = with(0);
        y.scene(NONE, 0, true, true, 20);
        y.scene(0, 1, true, true, 1);
        y.put(0, 0, 0);
        y.put(1, 0, 1);
        Check.due("a move, and no lunch: it ends at 855 with lunch ahead", y.ofScene(1, 2), 780 + 60 + 30);
        y.move(0, 1, 45);
        Check.due("a move, and no lunch", y.ofScene(1, 2), 825);
        y.light(0, 0, 0, 1440);
        Check.due("by the start", y.ofScene(1, 3), 360);
        y.move(0, 1, 46);
        Check.due("by the start", y.ofScene(1, 3), 391);
    }

    private static void lunchAheadOfFirst() {
        Stripboard x = with(0);
        x.scene(NONE, 0, true, true, 25);
        x.put(0, 0, 0);
        Check.due("lunch first", x.ofScene(0, 2), 510);
        Check.due("ends", x.ofScene(0, 3), 885);
        x.needs(0, 1);
        Check.due("called behind lunch", x.call(0, 0, false), 480);
    }

    private static void fillFirstDay() {
        Stripboard x = with(3);
        x.permit(0, 0, false);
        x.needs(1, 1);
        x.ill(0, 1, true);
        Check.due("all", x.fill(), 3);
        row("not allowed", x, 0);
        row("one is ill", x, 1, 0, 2);
        row("the next", x, 2, 1);
        Check.due("nothing is left", x.fill(), 0);
    }

    private static void fillInStoryOrder() {
        Stripboard x = with(2);
        x.scene(NONE, 0, true, true, 1);
        x.scene(0, 0, true, true, 1);
        x.put(1, 3, 0);
        x.omit(3);
        x.scene(1, 0, true, true, 1);
        Check.due("those that are off", x.fill(), 3);
        row("by the story", x, 0, 2, 0, 4);
        row("those on the board stay", x, 3, 1);
    }

    /** One that is bound waits; when it is freed, the first of the story is next again. */
    private static void fillFreed() {
        Stripboard x = with(4);
        x.bind(0, 2);
        x.bind(1, 0);
        Check.due("all", x.fill(), 4);
        row("freed", x, 0, 2, 0, 1, 3);
        Stripboard y = with(3);
        y.bind(0, 1);
        y.put(1, 2, 0);
        Check.due("two", y.fill(), 2);
        row("not ahead of what it is bound behind", y, 2, 1, 0);
        row("free", y, 0, 2);
        Stripboard z = with(3);
        z.bind(0, 1);
        z.bind(0, 2);
        z.omit(1);
        z.put(2, 0, 0);
        z.shoot(2, 60);
        Check.due("behind shot and omitted ones", z.fill(), 1);
        row("on the day of now", z, 0, 2, 0);
    }

    private static void fillLeaves() {
        Stripboard x = with(3);
        x.bind(1, 0);
        x.needs(0, 4);
        for (int day = 0; day < 30; day++) x.ill(2, day, true);
        Check.due("the third alone", x.fill(), 1);
        row("day 0", x, 0, 2);
        Check.due("left", x.ofScene(0, 0), Stripboard.OPEN);
        Check.due("bound behind it", x.ofScene(1, 0), Stripboard.OPEN);
        x.ill(2, 29, false);
        Check.due("the last day", x.fill(), 2);
        row("the last day", x, 29, 0, 1);
    }

    /** Two that find no day do not keep others from being tried. */
    private static void fillGoesOn() {
        Stripboard x = with(6);
        for (int i = 0; i < 5; i += 2) x.needs(i, 4);
        for (int day = 0; day < 30; day++) x.ill(2, day, true);
        Check.due("three of six", x.fill(), 3);
        row("the others", x, 0, 1, 3, 5);
    }

    /** A day whose scenes would get a fault is passed over; those that had some may get others. */
    private static void fillSparesFaultless() {
        Stripboard x = with(0);
        x.scene(NONE, 0, true, true, 30);
        x.scene(0, 0, true, true, 2);
        x.needs(0, 2);
        x.needs(1, 2);
        x.put(0, 0, 0);
        Check.due("510 to 960, to 990", x.fill(), 1);
        row("480 minutes of a child", x, 0, 0, 1);
        x.take(1);
        x.take(0);
        x.scene(1, 0, true, true, 3);
        x.needs(2, 2);
        x.put(0, 0, 0);
        x.omit(1);
        Check.due("put", x.fill(), 1);
        row("would be too long for the child", x, 1, 2);
        Stripboard y = with(0);
        y.scene(NONE, 0, true, true, 32);
        y.scene(0, 0, true, true, 16);
        y.put(0, 0, 0);
        Check.due("put", y.fill(), 1);
        row("the day would be too long", y, 0, 0);
        row("the next", y, 1, 1);
        Stripboard z = with(2);
        z.permit(0, 0, false);
        z.scene(1, 1, true, true, 1);
        z.put(0, 0, 0);
        Check.due("put", z.fill(), 2);
        row("beside one with a fault", z, 0, 0, 2);
        row("allowed", z, 1, 1);
    }

    /** One that was tried is not tried again, though a later one would make room for it. */
    private static void fillTriesOnce() {
        Stripboard x = with(3);
        x.bind(0, 1);
        x.put(1, 29, 0);
        for (int i = 0; i < 7; i++) {
            x.scene(2 + i, 0, true, true, 1);
            x.put(3 + i, 29, 0);
        }
        Check.due("the day of the other is full", x.fill(), 1);
        Check.due("left", x.ofScene(0, 1), NONE);
        Check.due("put", x.ofScene(2, 1), 0);
        x.take(9);
        x.take(2);
        Check.due("again", x.fill(), 3);
        Check.due("put now", x.ofScene(0, 1), 29);
    }

    private static void fillFromNow() {
        Stripboard x = with(2);
        x.put(0, 0, 0);
        Check.due("one is owed", x.next(), 1);
        x.next();
        Check.due("two", x.fill(), 2);
        row("from now on", x, 2, 0, 1);
        row("over", x, 0);
        for (int i = 2; i < 29; i++) x.next();
        Check.due("all", x.fill(), 2);
        row("the last day", x, 29, 0, 1);
    }

    private static void fillFullDays() {
        Stripboard x = with(0);
        for (int i = 0; i < 20; i++) x.scene(i - 1, 0, true, true, 1);
        Check.due("all", x.fill(), 20);
        row("eight", x, 0, 0, 1, 2, 3, 4, 5, 6, 7);
        row("eight", x, 1, 8, 9, 10, 11, 12, 13, 14, 15);
        row("four", x, 2, 16, 17, 18, 19);
    }

    private static void fillAtEndOfRow() {
        Stripboard x = with(3);
        x.put(2, 0, 0);
        x.put(1, 0, 0);
        Check.due("one", x.fill(), 1);
        row("at the end", x, 0, 1, 2, 0);
    }

    private static void mend() {
        Stripboard x = with(5);
        x.needs(0, 1);
        x.needs(1, 2);
        x.needs(2, 3);
        x.needs(4, 4);
        for (int i = 0; i < 5; i++) x.put(i, 3, i);
        Check.due("nobody is ill", x.mend(3), 0);
        x.ill(0, 3, true);
        x.ill(2, 2, true);
        x.ill(0, 0, true);
        Check.due("two", x.mend(3), 2);
        row("they stay", x, 3, 1, 3, 4);
        row("ill there too", x, 0);
        row("another day", x, 1, 0, 2);
        Check.due("just that day", x.mend(2), 0);
        x.ill(0, 1, true);
        Check.due("to later ones", x.mend(1), 2);
        row("mended again", x, 1);
        row("later", x, 2, 0, 2);
    }

    /** They go in the order of their row, and not to the day that is mended, even if they would fit there. */
    private static void mendOrder() {
        Stripboard x = with(3);
        for (int i = 0; i < 3; i++) x.needs(i, 1);
        x.put(0, 0, 0);
        x.put(1, 0, 0);
        x.put(2, 0, 0);
        x.ill(0, 0, true);
        Check.due("all", x.mend(0), 3);
        row("as they stood", x, 1, 2, 1, 0);
        row("mended", x, 0);
        x.ill(0, 0, false);
        x.ill(0, 1, true);
        Check.due("all", x.mend(1), 3);
        row("the first day is well again", x, 0, 2, 1, 0);
    }

    private static void mendLeaves() {
        Stripboard x = with(3);
        x.put(0, 0, 0);
        x.next();
        x.needs(0, 1);
        x.needs(1, 1);
        x.put(0, 5, 0);
        x.put(1, 5, 1);
        for (int day = 0; day < 30; day++) x.ill(0, day, true);
        Check.due("none", x.mend(5), 0);
        row("off", x, 5);
        Check.due("OWED again", x.ofScene(0, 0), Stripboard.OWED);
        Check.due("OPEN", x.ofScene(1, 0), Stripboard.OPEN);
        x.put(0, 5, 0);
        x.put(1, 5, 1);
        x.ill(0, 0, false);
        Check.due("days that are over do not count", x.mend(5), 0);
        x.put(0, 5, 0);
        x.put(1, 5, 1);
        x.ill(0, 1, false);
        Check.due("that of now counts", x.mend(5), 2);
        row("now", x, 1, 0, 1);
    }

    private static void mendShotStays() {
        Stripboard x = with(2);
        x.needs(0, 1);
        x.needs(1, 1);
        x.put(0, 0, 0);
        x.put(1, 0, 1);
        x.shoot(0, 60);
        x.ill(0, 0, true);
        Check.due("one", x.mend(0), 1);
        row("shot stays", x, 0, 0);
        row("the other goes", x, 1, 1);
    }

    private static void mendRefusals() {
        Stripboard x = with(1);
        Check.refused("day 30", Check.INDEX, () -> x.mend(30));
        Check.refused("day -1", Check.INDEX, () -> x.mend(-1));
        x.next();
        Check.refused("over", Check.STATE, () -> x.mend(0));
        Check.due("now", x.mend(1), 0);
        Check.due("the last", x.mend(29), 0);
    }

    private static void strip() {
        Stripboard x = with(1);
        x.put(0, 2, 0);
        Check.due("a scene", x.strip(2, 0), 0);
        Check.due("not so many", x.strip(2, 1), NONE);
        Check.due("never so many", x.strip(2, 8), NONE);
        Check.due("far behind", x.strip(2, Integer.MAX_VALUE), NONE);
        Check.refused("at -1", Check.INDEX, () -> x.strip(2, -1));
        Check.refused("at the lowest", Check.INDEX, () -> x.strip(2, Integer.MIN_VALUE));
        Check.refused("day 30", Check.INDEX, () -> x.strip(30, 0));
        Check.refused("day -1", Check.INDEX, () -> x.strip(-1, 0));
    }

    private static void ofScene() {
        Stripboard x = with(2);
        Check.due("OPEN", x.ofScene(0, 0), Stripboard.OPEN);
        for (int what = 1; what < 5; what++) Check.due("on no day", x.ofScene(0, what), NONE);
        x.put(0, 3, 0);
        x.put(1, 3, 1);
        int[] due = {Stripboard.PLACED, 3, 540, 600, 0};
        for (int what = 0; what < 5; what++) Check.due("number " + what, x.ofScene(1, what), due[what]);
        Check.refused("5", Check.ARGUMENT, () -> x.ofScene(0, 5));
        Check.refused("-1", Check.ARGUMENT, () -> x.ofScene(0, -1));
        Check.refused("index first", Check.INDEX, () -> x.ofScene(2, 5));
        Check.refused("no scene", Check.INDEX, () -> x.ofScene(-1, 0));
    }

    private static void ofSceneStates() {
        Stripboard x = with(1);
        x.put(0, 0, 0);
        Check.due("PLACED", x.ofScene(0, 0), Stripboard.PLACED);
        x.next();
        Check.due("OWED", x.ofScene(0, 0), Stripboard.OWED);
        x.put(0, 1, 0);
        Check.due("PLACED again", x.ofScene(0, 0), Stripboard.PLACED);
        x.take(0);
        Check.due("OWED again", x.ofScene(0, 0), Stripboard.OWED);
        x.put(0, 1, 0);
        x.shoot(0, 70);
        x.next();
        Check.due("SHOT", x.ofScene(0, 0), Stripboard.SHOT);
        Check.due("it stays on its day", x.ofScene(0, 1), 1);
        Check.due("and lasts what it lasted", x.ofScene(0, 3), 550);
        x.lose(0);
        Check.due("OWED", x.ofScene(0, 0), Stripboard.OWED);
        x.omit(0);
        Check.due("OMITTED", x.ofScene(0, 0), Stripboard.OMITTED);
    }

    private static void call() {
        Stripboard x = with(3);
        x.needs(0, 5);
        x.needs(1, 2);
        x.needs(2, 1);
        for (int i = 0; i < 3; i++) x.put(i, 0, i);
        Check.due("less 30", x.call(0, 0, false), 450);
        Check.due("the last end", x.call(0, 0, true), 660);
        Check.due("the second", x.call(1, 0, false), 540);
        Check.due("the second", x.call(1, 0, true), 600);
        Check.due("less 180", x.call(2, 0, false), 300);
        Check.due("no work", x.call(2, 1, false), -10000);
        Check.due("no work", x.call(2, 1, true), -10000);
        x.light(0, 0, 0, 1440);
        Check.due("below 0", x.call(2, 0, false), -180);
        x.light(0, 1200, 0, 1440);
        x.shoot(2, 1000);
        Check.due("above 1440", x.call(0, 0, true), 4200 + 30);
        Check.refused("no person", Check.INDEX, () -> x.call(3, 0, true));
        Check.refused("no person", Check.INDEX, () -> x.call(-1, 0, true));
        Check.refused("day 30", Check.INDEX, () -> x.call(0, 30, true));
        Check.refused("day -1", Check.INDEX, () -> x.call(0, -1, false));
    }
}
