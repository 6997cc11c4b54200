/** Promises 1 to 9: a new object, scenes, labels, needs, looks, what binds. */
public final class StoryTest {
    private static final int NONE = Stripboard.NONE;

    public static void main(String[] args) {
        newObject();
        sceneNumbersAndOrder();
        sceneRefusals();
        sceneRefusedChangesNothing();
        lockKeepsLabels();
        lettersAfterLock();
        lettersOfManyNumbers();
        lockOfNothing();
        omit();
        omitLeavesBoard();
        labels();
        needs();
        looks();
        nothingIsWantedAtFirst();
        looksInStoryOrder();
        clashes();
        bind();
        bindGoesRound();
        Check.end("StoryTest");
    }

    /** A board with places and scenes of one eighth, inside, in a row. */
    private static Stripboard with(int scenes) {
        Stripboard x = new Stripboard();
        x.place(0);
        x.place(0);
        for (int i = 0; i < scenes; i++) x.scene(i - 1, 0, true, true, 1);
        return x;
    }

    private static void newObject() {
        Stripboard x = new Stripboard();
        Check.refused("no scenes", Check.INDEX, () -> x.label(0));
        Check.refused("no people", Check.INDEX, () -> x.pay(0, false));
        Check.refused("no places", Check.INDEX, () -> x.permit(0, 0, true));
        Check.due("cost of nothing", x.cost(), 0);
        Check.due("fill of nothing", x.fill(), 0);
        for (int day = 0; day < 30; day++) Check.due("no strip", x.strip(day, 0), NONE);
        x.place(0);
        x.scene(NONE, 0, true, true, 1);
        Check.due("day 0 is not over", x.put(0, 0, 0), 0);
        Check.due("day 0 is that of now", x.shoot(0, 15), 15);
    }

    private static void sceneNumbersAndOrder() {
        Stripboard x = with(0);
        Check.due("first", x.scene(NONE, 0, true, true, 1), 0);
        Check.due("behind", x.scene(0, 1, true, true, 32), 1);
        Check.due("ahead of all", x.scene(NONE, 1, false, false, 1), 2);
        Check.due("between", x.scene(0, 0, false, true, 7), 3);
        int[] labels = {200, 400, 100, 300};
        for (int i = 0; i < 4; i++) Check.due("label " + i, x.label(i), labels[i]);
        for (int i = 4; i < 20; i++) Check.due("made", x.scene(i - 1, 0, true, true, 1), i);
        Check.refused("twenty-first", Check.STATE, () -> x.scene(NONE, 0, true, true, 1));
        Check.due("label behind 3", x.label(4), 400);
        Check.due("last of the story", x.label(1), 2000);
    }

    private static void sceneRefusals() {
        Stripboard x = with(1);
        Check.refused("behind 1", Check.INDEX, () -> x.scene(1, 0, true, true, 1));
        Check.refused("behind -2", Check.INDEX, () -> x.scene(-2, 0, true, true, 1));
        Check.refused("place 2", Check.INDEX, () -> x.scene(0, 2, true, true, 1));
        Check.refused("place -1", Check.INDEX, () -> x.scene(0, -1, true, true, 1));
        Check.refused("far behind", Check.INDEX, () -> x.scene(Integer.MAX_VALUE, 0, true, true, 1));
        Check.refused("far place", Check.INDEX, () -> x.scene(0, Integer.MIN_VALUE, true, true, 1));
        Check.refused("0 eighths", Check.ARGUMENT, () -> x.scene(0, 0, true, true, 0));
        Check.refused("33 eighths", Check.ARGUMENT, () -> x.scene(0, 0, true, true, 33));
        Check.refused("index first", Check.INDEX, () -> x.scene(9, 0, true, true, 0));
        Stripboard full = with(20);
        Check.refused("index ahead of state", Check.INDEX, () -> full.scene(20, 0, true, true, 1));
        Check.refused("argument ahead of state", Check.ARGUMENT, () -> full.scene(0, 0, true, true, 0));
        Check.refused("full", Check.STATE, () -> full.scene(0, 0, true, true, 1));
        full.omit(3);
        Check.refused("omitted ones count", Check.STATE, () -> full.scene(0, 0, true, true, 1));
    }

    private static void sceneRefusedChangesNothing() {
        Stripboard x = with(1);
        Check.refused("refused", Check.ARGUMENT, () -> x.scene(NONE, 0, true, true, 0));
        Check.due("label stays", x.label(0), 100);
        Check.due("the next number", x.scene(NONE, 0, true, true, 1), 1);
    }

    private static void lockKeepsLabels() {
        Stripboard x = with(3);
        x.omit(1);
        Check.due("lock counts all", x.lock(), 3);
        Check.refused("twice", Check.STATE, () -> x.lock());
        Check.due("a new one", x.scene(NONE, 0, true, true, 1), 3);
        Check.due("0A", x.label(3), 1);
        for (int i = 0; i < 3; i++) Check.due("kept", x.label(i), 100 * (i + 1));
        x.scene(1, 0, true, true, 1);
        Check.due("behind an omitted one", x.label(4), 201);
    }

    private static void lettersAfterLock() {
        Stripboard x = with(2);
        x.lock();
        x.scene(0, 0, true, true, 1);
        Check.due("1A", x.label(2), 101);
        x.scene(0, 0, true, true, 1);
        Check.due("1B, though ahead of 1A", x.label(3), 102);
        x.scene(2, 0, true, true, 1);
        Check.due("1C behind 1A", x.label(4), 103);
        x.scene(1, 0, true, true, 1);
        Check.due("2A", x.label(5), 201);
        x.omit(2);
        x.scene(0, 0, true, true, 1);
        Check.due("the letter of an omitted one stays taken", x.label(6), 104);
        Check.due("it keeps its label", x.label(2), 101);
    }

    private static void lettersOfManyNumbers() {
        Stripboard x = with(1);
        x.lock();
        for (int i = 1; i < 20; i++) {
            x.scene(0, 0, true, true, 1);
            Check.due("letter " + i, x.label(i), 100 + i);
        }
        Check.refused("full when locked", Check.STATE, () -> x.scene(0, 0, true, true, 1));
    }

    private static void lockOfNothing() {
        Stripboard x = with(0);
        Check.due("nothing locked", x.lock(), 0);
        x.scene(NONE, 0, true, true, 1);
        x.scene(0, 0, true, true, 1);
        Check.due("0A", x.label(0), 1);
        Check.due("0B", x.label(1), 2);
    }

    private static void omit() {
        Stripboard x = with(4);
        Check.due("three are left", x.omit(1), 3);
        Check.refused("twice", Check.STATE, () -> x.omit(1));
        Check.refused("no scene", Check.INDEX, () -> x.omit(4));
        Check.refused("no scene", Check.INDEX, () -> x.omit(-1));
        Check.due("it keeps its label", x.label(1), 200);
        Check.due("and its place", x.label(2), 300);
        x.scene(NONE, 0, true, true, 1);
        Check.due("which goes on with the story", x.label(1), 300);
        x.put(0, 0, 0);
        x.shoot(0, 10);
        Check.refused("shot", Check.STATE, () -> x.omit(0));
        x.lose(0);
        Check.due("lost can be omitted", x.omit(0), 3);
        Check.due("OMITTED", x.ofScene(0, 0), Stripboard.OMITTED);
        Check.due("not owed then", x.next(), 0);
    }

    private static void omitLeavesBoard() {
        Stripboard x = with(3);
        x.put(0, 2, 0);
        x.put(1, 2, 1);
        x.put(2, 2, 2);
        Check.due("two are left", x.omit(1), 2);
        Check.due("the row closes", x.strip(2, 1), 2);
        Check.due("and is shorter", x.strip(2, 2), NONE);
        for (int what = 1; what < 5; what++) Check.due("on no day", x.ofScene(1, what), NONE);
        Check.due("the next begins earlier", x.ofScene(2, 2), 495);
    }

    private static void labels() {
        Stripboard x = with(2);
        Check.due("1", x.label(0), 100);
        Check.due("2", x.label(1), 200);
        Check.refused("no scene", Check.INDEX, () -> x.label(2));
        Check.refused("no scene", Check.INDEX, () -> x.label(NONE));
    }

    private static void needs() {
        Stripboard x = with(2);
        Check.refused("nobody is there", Check.ARGUMENT, () -> x.needs(0, 1));
        Check.due("none", x.needs(0, 0), 0);
        for (int i = 0; i < 8; i++) x.person(0, 1, 0, false);
        Check.due("all", x.needs(0, 255), 8);
        Check.due("some", x.needs(1, 0b10100001), 3);
        Check.refused("a ninth", Check.ARGUMENT, () -> x.needs(0, 256));
        Check.refused("below 0", Check.ARGUMENT, () -> x.needs(0, -1));
        Check.refused("lowest", Check.ARGUMENT, () -> x.needs(0, Integer.MIN_VALUE));
        Check.refused("no scene", Check.INDEX, () -> x.needs(2, -1));
        Check.refused("no scene", Check.INDEX, () -> x.needs(-1, 0));
        x.put(0, 0, 0);
        Check.due("the need stands", x.call(7, 0, false), 480);
        Check.due("in place of what was told", x.needs(0, 1), 1);
        Check.due("no more", x.call(7, 0, false), -10000);
        Check.due("still", x.call(0, 0, false), 480);
    }

    private static void looks() {
        Stripboard x = with(3);
        Check.due("0 is wanted", x.look(1, 0, true, 0), 0);
        Check.due("1 is wanted", x.look(1, 0, true, 1), 1);
        Check.due("two things", x.look(1, 3, true, 9), 1);
        Check.due("another scene", x.look(2, 3, true, 1), 2);
        Check.due("9 is left by it", x.look(1, 3, false, 1), 1);
        Check.due("nothing is told", x.look(1, 3, true, NONE), 1);
        Check.due("nothing is told", x.look(1, 0, true, NONE), 0);
        Check.due("nothing is left", x.look(1, 3, false, NONE), 1);
        Check.refused("look 10", Check.ARGUMENT, () -> x.look(0, 0, true, 10));
        Check.refused("look -2", Check.ARGUMENT, () -> x.look(0, 0, false, -2));
        Check.refused("thing 4", Check.INDEX, () -> x.look(0, 4, true, 10));
        Check.refused("thing -1", Check.INDEX, () -> x.look(0, -1, true, 0));
        Check.refused("scene 3", Check.INDEX, () -> x.look(3, 0, true, 0));
        Check.refused("scene -1", Check.INDEX, () -> x.look(-1, 0, true, 0));
    }

    private static void nothingIsWantedAtFirst() {
        Stripboard x = with(3);
        for (int thing = 0; thing < 4; thing++) Check.due("left", x.look(0, thing, false, 1 + thing), 0);
        for (int thing = 0; thing < 4; thing++) Check.due("wanted", x.look(2, thing, true, 1 + thing), 0);
        for (int thing = 0; thing < 4; thing++) Check.due("not wanted by the other", x.clashes(1), false);
        Check.due("0 is another look", x.look(1, 3, true, 0), 1);
    }

    private static void looksInStoryOrder() {
        Stripboard x = with(2);
        x.look(0, 2, true, 5);
        x.look(1, 2, true, 5);
        Check.due("both clash", x.look(0, 1, true, 0), 2);
        x.scene(NONE, 0, true, true, 1);
        Check.due("left by the first", x.look(2, 2, false, 5), 0);
        Check.due("changed between", x.look(0, 2, false, 6), 1);
        Check.due("the last", x.clashes(1), true);
        x.omit(0);
        Check.due("omitted ones leave nothing", x.clashes(1), false);
        x.omit(2);
        Check.due("omitted ones leave nothing", x.clashes(1), true);
        Check.due("what is told to omitted ones", x.look(2, 0, true, 9), 1);
    }

    private static void clashes() {
        Stripboard x = with(2);
        Check.due("nothing is wanted", x.clashes(0), false);
        x.look(0, 0, false, 4);
        x.look(0, 0, true, 4);
        Check.due("it wants before it leaves", x.clashes(0), true);
        x.look(1, 0, true, 4);
        Check.due("one that clashes leaves what it leaves", x.clashes(1), false);
        x.omit(0);
        Check.due("false if omitted", x.clashes(0), false);
        Check.due("nothing is left then", x.clashes(1), true);
        Check.refused("no scene", Check.INDEX, () -> x.clashes(2));
        Check.refused("no scene", Check.INDEX, () -> x.clashes(-1));
    }

    private static void bind() {
        Stripboard x = with(4);
        Check.due("one", x.bind(3, 0), 1);
        Check.due("two", x.bind(3, 1), 2);
        Check.due("twice counts once", x.bind(3, 0), 2);
        Check.refused("both are one", Check.STATE, () -> x.bind(2, 2));
        Check.refused("no scene", Check.INDEX, () -> x.bind(4, 0));
        Check.refused("no other", Check.INDEX, () -> x.bind(0, 4));
        Check.refused("no scene", Check.INDEX, () -> x.bind(-1, 0));
        Check.refused("no other", Check.INDEX, () -> x.bind(0, -1));
        x.omit(0);
        Check.due("omitted ones count", x.bind(3, 2), 3);
    }

    private static void bindGoesRound() {
        Stripboard x = with(20);
        for (int i = 0; i < 19; i++) Check.due("chain", x.bind(i, i + 1), 1);
        Check.refused("round by all", Check.STATE, () -> x.bind(19, 0));
        Check.refused("round by some", Check.STATE, () -> x.bind(9, 4));
        Check.due("ahead in the chain", x.bind(4, 9), 2);
        x.omit(10);
        Check.refused("round by an omitted one", Check.STATE, () -> x.bind(19, 0));
        Check.refused("both are one", Check.STATE, () -> x.bind(5, 5));
    }
}
