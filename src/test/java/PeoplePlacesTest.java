/** Promises 10 to 15: people, illness, places, permits, moves, light. */
public final class PeoplePlacesTest {
    private static final int NONE = Stripboard.NONE;

    public static void main(String[] args) {
        person();
        ill();
        place();
        permit();
        move();
        moveIsSame();
        light();
        lightOfPutScenes();
        Check.end("PeoplePlacesTest");
    }

    private static void person() {
        Stripboard x = new Stripboard();
        Check.refused("deal -1", Check.ARGUMENT, () -> x.person(-1, 1, 0, false));
        Check.refused("deal 3", Check.ARGUMENT, () -> x.person(3, 1, 0, false));
        Check.refused("rate 0", Check.ARGUMENT, () -> x.person(0, 0, 0, false));
        Check.refused("rate 1001", Check.ARGUMENT, () -> x.person(0, 1001, 0, false));
        Check.refused("prepare -1", Check.ARGUMENT, () -> x.person(0, 1, -1, false));
        Check.refused("prepare 181", Check.ARGUMENT, () -> x.person(0, 1, 181, false));
        Check.due("lowest", x.person(Stripboard.BY_DAY, 1, 0, true), 0);
        Check.due("highest", x.person(Stripboard.FOR_RUN, 1000, 180, true), 1);
        for (int i = 2; i < 8; i++) Check.due("number", x.person(Stripboard.BY_WEEK, 5, 5, false), i);
        Check.refused("a ninth", Check.STATE, () -> x.person(0, 1, 0, false));
        Check.refused("argument first", Check.ARGUMENT, () -> x.person(0, 1, 181, false));
    }

    private static void ill() {
        Stripboard x = new Stripboard();
        x.person(0, 1, 0, false);
        x.person(0, 1, 0, false);
        Check.due("well", x.ill(0, 3, false), 0);
        Check.due("one day", x.ill(0, 0, true), 1);
        Check.due("two days", x.ill(0, 29, true), 2);
        Check.due("told twice", x.ill(0, 29, true), 2);
        Check.due("another person", x.ill(1, 29, true), 1);
        Check.due("well again", x.ill(0, 0, false), 1);
        for (int day = 0; day < 30; day++) x.ill(1, day, true);
        Check.due("all days", x.ill(1, 5, true), 30);
        Check.refused("no person", Check.INDEX, () -> x.ill(2, 0, true));
        Check.refused("no person", Check.INDEX, () -> x.ill(-1, 0, true));
        Check.refused("day 30", Check.INDEX, () -> x.ill(0, 30, true));
        Check.refused("day -1", Check.INDEX, () -> x.ill(0, -1, true));
    }

    private static void place() {
        Stripboard x = new Stripboard();
        Check.refused("cost -1", Check.ARGUMENT, () -> x.place(-1));
        Check.refused("cost 1001", Check.ARGUMENT, () -> x.place(1001));
        Check.due("lowest", x.place(0), 0);
        Check.due("highest", x.place(1000), 1);
        for (int i = 2; i < 6; i++) Check.due("number", x.place(i), i);
        Check.refused("a seventh", Check.STATE, () -> x.place(1));
        Check.refused("argument first", Check.ARGUMENT, () -> x.place(1001));
    }

    private static void permit() {
        Stripboard x = new Stripboard();
        x.place(1);
        x.place(1);
        Check.due("allowed at first", x.permit(0, 7, true), 30);
        Check.due("not on one", x.permit(0, 7, false), 29);
        Check.due("told twice", x.permit(0, 7, false), 29);
        Check.due("not on two", x.permit(0, 0, false), 28);
        Check.due("another place", x.permit(1, 29, false), 29);
        Check.due("allowed again", x.permit(0, 7, true), 29);
        for (int day = 0; day < 30; day++) x.permit(1, day, false);
        Check.due("on none", x.permit(1, 0, false), 0);
        Check.refused("no place", Check.INDEX, () -> x.permit(2, 0, true));
        Check.refused("no place", Check.INDEX, () -> x.permit(-1, 0, true));
        Check.refused("day 30", Check.INDEX, () -> x.permit(0, 30, true));
        Check.refused("day -1", Check.INDEX, () -> x.permit(0, -1, true));
    }

    private static void move() {
        Stripboard x = new Stripboard();
        for (int i = 0; i < 3; i++) x.place(0);
        Check.due("60 at first", x.move(0, 1, 0), 60);
        Check.due("as told", x.move(0, 1, 300), 0);
        Check.due("the same both ways", x.move(1, 0, 5), 300);
        Check.due("the same both ways", x.move(0, 1, 5), 5);
        Check.due("others stay", x.move(2, 1, 7), 60);
        Check.due("others stay", x.move(2, 0, 7), 60);
        Check.refused("both are one", Check.ARGUMENT, () -> x.move(1, 1, 5));
        Check.refused("-1 minutes", Check.ARGUMENT, () -> x.move(0, 1, -1));
        Check.refused("301 minutes", Check.ARGUMENT, () -> x.move(0, 1, 301));
        Check.refused("no place", Check.INDEX, () -> x.move(3, 0, 5));
        Check.refused("no other", Check.INDEX, () -> x.move(0, 3, 301));
        Check.refused("no place", Check.INDEX, () -> x.move(-1, 0, 5));
        Check.refused("no other", Check.INDEX, () -> x.move(0, -1, 5));
        Check.refused("index first", Check.INDEX, () -> x.move(3, 3, 5));
    }

    /** A move counts between scenes of two places, either way. */
    private static void moveIsSame() {
        Stripboard x = new Stripboard();
        x.place(0);
        x.place(0);
        x.move(1, 0, 45);
        x.scene(NONE, 0, true, true, 1);
        x.scene(0, 1, true, true, 1);
        x.scene(1, 0, true, true, 1);
        x.scene(2, 0, true, true, 1);
        for (int i = 0; i < 4; i++) x.put(i, 0, i);
        int[] begins = {480, 540, 600, 615};
        for (int i = 0; i < 4; i++) Check.due("begin " + i, x.ofScene(i, 2), begins[i]);
    }

    private static void light() {
        Stripboard x = new Stripboard();
        Check.refused("day 30", Check.INDEX, () -> x.light(30, -1, 0, 0));
        Check.refused("day -1", Check.INDEX, () -> x.light(-1, 0, 0, 0));
        Check.refused("start -1", Check.ARGUMENT, () -> x.light(0, -1, 0, 0));
        Check.refused("start 1201", Check.ARGUMENT, () -> x.light(0, 1201, 0, 0));
        Check.refused("from -1", Check.ARGUMENT, () -> x.light(0, 0, -1, 0));
        Check.refused("from 1441", Check.ARGUMENT, () -> x.light(0, 0, 1441, 1441));
        Check.refused("to below from", Check.ARGUMENT, () -> x.light(0, 0, 5, 4));
        Check.refused("to 1441", Check.ARGUMENT, () -> x.light(0, 0, 0, 1441));
        x.place(0);
        x.scene(NONE, 0, true, false, 1);
        Check.due("nothing changed", x.put(0, 0, 0), 0);
        Check.due("nothing changed", x.ofScene(0, 2), 480);
        x.light(0, 1200, 1440, 1440);
        Check.due("highest start", x.ofScene(0, 2), 1200);
        Check.due("dark", x.ofScene(0, 4), 2);
        x.light(0, 0, 0, 0);
        Check.due("lowest start", x.ofScene(0, 2), 0);
        Check.due("it ends in the dark", x.ofScene(0, 4), 2);
        x.light(0, 0, 0, 15);
        Check.due("it ends with the light", x.ofScene(0, 4), 0);
        x.light(0, 0, 1, 1440);
        Check.due("it begins in the dark", x.ofScene(0, 4), 2);
        x.take(0);
        Check.due("other days stay", x.put(0, 1, 0), 0);
        Check.due("other days stay", x.ofScene(0, 2), 480);
    }

    /** Light from 360 to 1080 at first, and just for scenes outside by day. */
    private static void lightOfPutScenes() {
        Stripboard x = new Stripboard();
        x.place(0);
        x.scene(NONE, 0, true, false, 20);
        x.scene(NONE, 0, true, true, 20);
        x.scene(NONE, 0, false, false, 20);
        x.scene(NONE, 0, false, true, 20);
        for (int i = 0; i < 4; i++) x.put(i, i, 0);
        for (int start : new int[] {359, 360, 780, 781}) {
            for (int i = 0; i < 4; i++) x.light(i, start, 360, 1080);
            Check.due("outside by day from " + start, x.ofScene(0, 4), start == 360 || start == 780 ? 0 : 2);
            for (int i = 1; i < 4; i++) Check.due("inside or by night", x.ofScene(i, 4), 0);
        }
        Stripboard y = new Stripboard();
        y.place(0);
        y.scene(NONE, 0, true, true, 32);
        y.scene(0, 0, true, false, 5);
        y.put(0, 0, 0);
        Check.due("480 to 990, to 1065", y.put(1, 0, 1), 0);
        y.scene(0, 0, true, false, 1);
        Check.due("to 1005", y.put(2, 0, 1), 0);
        Check.due("to 1080", y.ofScene(1, 4), 0);
        y.scene(0, 0, true, true, 1);
        y.put(3, 0, 0);
        Check.due("to 1095", y.ofScene(1, 4), 2);
        Check.due("to 1020", y.ofScene(2, 4), 0);
    }
}
