/** The promises one by one: each number that is given or returned, at its bounds on either side. */
public final class PromiseBoundsTest {
    private static final int NONE = Stripboard.NONE;

    public static void main(String[] args) {
        constants();
        promise1();
        promise2();
        promise3();
        promise4();
        promise5();
        promise6();
        promise7();
        promise8();
        promise9();
        promise10();
        promise11();
        promise12();
        promise13();
        promise14();
        promise15();
        promise16();
        promise17();
        promise18();
        promise19();
        promise20();
        promise21();
        promise22();
        promise23();
        promise24();
        promise25();
        promise26();
        promise27();
        Check.end("PromiseBoundsTest");
    }

    private static void constants() {
        int[] deals = {Stripboard.BY_DAY, Stripboard.BY_WEEK, Stripboard.FOR_RUN};
        int[] how = {Stripboard.OPEN, Stripboard.PLACED, Stripboard.SHOT, Stripboard.OWED, Stripboard.OMITTED};
        for (int i = 0; i < 3; i++) Check.due("deal", deals[i], i);
        for (int i = 0; i < 5; i++) Check.due("how a scene is", how[i], i);
        Check.due("none", NONE, -1);
    }

    /** "No scenes, people and places; the day 0." */
    private static void promise1() {
        Stripboard x = new Stripboard();
        Check.refused("no scenes", Check.INDEX, () -> x.ofScene(0, 0));
        Check.refused("no people", Check.INDEX, () -> x.ill(0, 0, true));
        Check.refused("no places", Check.INDEX, () -> x.permit(0, 0, true));
        Check.due("the first place", x.place(1), 0);
        Check.due("the first person", x.person(0, 1, 0, false), 0);
        Check.due("the first scene", x.scene(NONE, 0, true, true, 1), 0);
        Check.due("the day 0 is not over", x.mend(0), 0);
        for (int i = 0; i < 29; i++) Check.due("29 days end", x.next(), 0);
        Check.refused("it is 29", Check.STATE, x::next);
        Stripboard y = new Stripboard();
        Check.refused("each object has its own", Check.INDEX, () -> y.ofScene(0, 0));
        Check.due("its own day", y.mend(0), 0);
    }

    /** behind: "a scene, or NONE"; place: "a place"; eighths: "1 to 32"; "Returns its number." */
    private static void promise2() {
        Stripboard x = Film.of(2, 2);
        Check.refused("behind -2", Check.INDEX, () -> x.scene(-2, 0, true, true, 1));
        Check.refused("behind 2", Check.INDEX, () -> x.scene(2, 0, true, true, 1));
        Check.refused("place -1", Check.INDEX, () -> x.scene(0, -1, true, true, 1));
        Check.refused("place 2", Check.INDEX, () -> x.scene(0, 2, true, true, 1));
        Check.refused("0 eighths", Check.ARGUMENT, () -> x.scene(0, 0, true, true, 0));
        Check.refused("33 eighths", Check.ARGUMENT, () -> x.scene(0, 0, true, true, 33));
        Check.due("behind NONE, place 0, 1 eighth", x.scene(NONE, 0, true, true, 1), 2);
        Check.due("behind the last, place 1, 32 eighths", x.scene(2, 1, true, true, 32), 3);
        Check.due("behind 0", x.scene(0, 1, true, true, 2), 4);
        for (int i = 5; i < 20; i++) Check.due("its number", x.scene(i - 1, 1, false, false, 31), i);
        Check.refused("there are 20", Check.STATE, () -> x.scene(NONE, 0, true, true, 1));
    }

    /** "Returns how many scenes there are": 0 to 20, omitted ones too. "if it is locked" */
    private static void promise3() {
        for (int many = 0; many <= 20; many++) {
            Stripboard x = Film.of(1, many);
            if (many > 0) x.omit(0);
            Check.due("scenes", x.lock(), many);
            Check.refused("locked", Check.STATE, x::lock);
            Check.refused("locked still", Check.STATE, x::lock);
        }
    }

    /** "Returns how many are not omitted then": 19 to 0. */
    private static void promise4() {
        Stripboard x = Film.of(1, 20);
        for (int i = 19; i >= 0; i--) {
            int scene = i;
            Check.due("left", x.omit(i), i);
            Check.refused("omitted", Check.STATE, () -> x.omit(scene));
        }
        Check.refused("scene -1", Check.INDEX, () -> x.omit(-1));
        Check.refused("scene 20", Check.INDEX, () -> x.omit(20));
        Stripboard y = Film.of(1, 1);
        y.put(0, 0, 0);
        y.shoot(0, 1);
        Check.refused("shot", Check.STATE, () -> y.omit(0));
        y.lose(0);
        y.put(0, 3, 0);
        Check.due("placed", y.omit(0), 0);
    }

    /** "Returns 100 times its number, and its letter, together; 0 for no letter." */
    private static void promise5() {
        Stripboard x = Film.of(1, 2);
        Check.refused("scene -1", Check.INDEX, () -> x.label(-1));
        Check.refused("scene 2", Check.INDEX, () -> x.label(2));
        Film.labels("open", x, 100, 200);
        x.lock();
        x.scene(1, 0, true, true, 1);
        x.scene(NONE, 0, true, true, 1);
        Film.labels("locked", x, 100, 200, 201, 1);
    }

    /** people: "the sum of 2 to the power of each person"; "Returns how many it needs." */
    private static void promise6() {
        for (int many = 0; many <= 8; many++) {
            Stripboard x = Film.of(1, 2);
            for (int i = 0; i < many; i++) Film.person(x, 0, 1);
            int all = 1 << many;
            for (int people = 0; people < all; people++) Check.due("some", x.needs(1, people), Integer.bitCount(people));
            Check.refused("one that there is not", Check.ARGUMENT, () -> x.needs(1, all));
            Check.refused("and all others", Check.ARGUMENT, () -> x.needs(1, 2 * all - 1));
            Check.refused("below 0", Check.ARGUMENT, () -> x.needs(1, -1));
        }
    }

    /** thing: "0 to 3"; look: "0 to 9, or NONE"; "Returns how many scenes CLASH then." */
    private static void promise7() {
        Stripboard x = Film.of(1, 20);
        for (int i = 0; i < 20; i++) Check.due("one more", x.look(i, 3, true, 9), i + 1);
        for (int i = 0; i < 20; i++) Check.due("one less", x.look(i, 3, true, NONE), 19 - i);
        for (int i = 0; i < 20; i++) Check.due("0 is its look", x.look(i, 0, true, 0), 0);
        Check.due("all but the first", x.look(0, 0, false, 1), 19);
        Check.refused("scene -1", Check.INDEX, () -> x.look(-1, 0, true, 0));
        Check.refused("scene 20", Check.INDEX, () -> x.look(20, 0, true, 0));
        Check.refused("thing -1", Check.INDEX, () -> x.look(0, -1, true, 0));
        Check.refused("thing 4", Check.INDEX, () -> x.look(0, 4, true, 0));
        Check.refused("look -2", Check.ARGUMENT, () -> x.look(0, 0, true, -2));
        Check.refused("look 10", Check.ARGUMENT, () -> x.look(0, 0, true, 10));
    }

    /** "Returns whether it does; false if it is omitted." */
    private static void promise8() {
        Stripboard x = Film.of(1, 20);
        for (int i = 0; i < 20; i += 19) {
            Check.due("not", x.clashes(i), false);
            x.look(i, 0, true, 1);
            Check.due("it does", x.clashes(i), true);
            x.omit(i);
            Check.due("omitted", x.clashes(i), false);
        }
        Check.refused("scene -1", Check.INDEX, () -> x.clashes(-1));
        Check.refused("scene 20", Check.INDEX, () -> x.clashes(20));
    }

    /** "Returns behind how many it is bound then": 1 to 19. */
    private static void promise9() {
        Stripboard x = Film.of(1, 20);
        for (int i = 0; i < 20; i++) {
            int scene = i;
            for (int other = 0; other < i; other++) Check.due("one more", x.bind(i, other), other + 1);
            Check.refused("both are one", Check.STATE, () -> x.bind(scene, scene));
        }
        Check.refused("round", Check.STATE, () -> x.bind(0, 19));
        Check.refused("scene -1", Check.INDEX, () -> x.bind(-1, 0));
        Check.refused("scene 20", Check.INDEX, () -> x.bind(20, 0));
        Check.refused("other -1", Check.INDEX, () -> x.bind(0, -1));
        Check.refused("other 20", Check.INDEX, () -> x.bind(0, 20));
    }

    /** deal: "BY_DAY to FOR_RUN"; rate: "1 to 1000"; prepare: "0 to 180"; "Returns their number." */
    private static void promise10() {
        Stripboard x = new Stripboard();
        Check.refused("deal -1", Check.ARGUMENT, () -> x.person(-1, 1, 0, true));
        Check.refused("deal 3", Check.ARGUMENT, () -> x.person(3, 1, 0, true));
        Check.refused("rate 0", Check.ARGUMENT, () -> x.person(0, 0, 0, true));
        Check.refused("rate 1001", Check.ARGUMENT, () -> x.person(0, 1001, 0, true));
        Check.refused("prepare -1", Check.ARGUMENT, () -> x.person(0, 1, -1, true));
        Check.refused("prepare 181", Check.ARGUMENT, () -> x.person(0, 1, 181, true));
        int number = 0;
        for (int deal = 0; deal < 3; deal += 2) {
            for (int rate = 1; rate <= 1000; rate += 999) {
                for (int prepare = 0; prepare <= 180; prepare += 180) {
                    Check.due("their number", x.person(deal, rate, prepare, deal == 0), number++);
                }
            }
        }
        Check.refused("there are 8", Check.STATE, () -> x.person(1, 500, 90, false));
    }

    /** "Returns on how many days they are": 0 to 30. */
    private static void promise11() {
        Stripboard x = new Stripboard();
        Check.refused("person 0", Check.INDEX, () -> x.ill(0, 0, false));
        Film.person(x, 0, 1);
        Film.person(x, 0, 1);
        for (int day = 0; day < 30; day++) Check.due("one more", x.ill(1, day, true), day + 1);
        for (int day = 0; day < 30; day++) Check.due("told twice", x.ill(1, day, true), 30);
        for (int day = 0; day < 30; day++) Check.due("the other", x.ill(0, day, false), 0);
        for (int day = 0; day < 30; day++) Check.due("one less", x.ill(1, day, false), 29 - day);
        for (int day = 0; day < 30; day++) Check.due("told twice", x.ill(1, day, false), 0);
        Check.refused("person 2", Check.INDEX, () -> x.ill(2, 0, true));
        Check.refused("person -1", Check.INDEX, () -> x.ill(-1, 0, true));
        Check.refused("day 30", Check.INDEX, () -> x.ill(1, 30, true));
        Check.refused("day -1", Check.INDEX, () -> x.ill(1, -1, true));
        x.next();
        Check.due("of a day that is over", x.ill(1, 0, true), 1);
    }

    /** cost: "0 to 1000: for a day"; "Returns its number." */
    private static void promise12() {
        Stripboard x = new Stripboard();
        Check.refused("cost -1", Check.ARGUMENT, () -> x.place(-1));
        Check.refused("cost 1001", Check.ARGUMENT, () -> x.place(1001));
        for (int i = 0; i < 6; i++) Check.due("its number", x.place(i % 2 * 1000), i);
        Check.refused("there are 6", Check.STATE, () -> x.place(0));
        Check.refused("argument first", Check.ARGUMENT, () -> x.place(-1));
    }

    /** "Returns on how many days it is": 30 to 0. */
    private static void promise13() {
        Stripboard x = new Stripboard();
        Check.refused("place 0", Check.INDEX, () -> x.permit(0, 0, true));
        x.place(0);
        x.place(0);
        for (int day = 0; day < 30; day++) Check.due("one less", x.permit(1, day, false), 29 - day);
        for (int day = 0; day < 30; day++) Check.due("told twice", x.permit(1, day, false), 0);
        for (int day = 0; day < 30; day++) Check.due("the other", x.permit(0, day, true), 30);
        for (int day = 0; day < 30; day++) Check.due("one more", x.permit(1, day, true), day + 1);
        Check.refused("place 2", Check.INDEX, () -> x.permit(2, 0, true));
        Check.refused("place -1", Check.INDEX, () -> x.permit(-1, 0, true));
        Check.refused("day 30", Check.INDEX, () -> x.permit(1, 30, true));
        Check.refused("day -1", Check.INDEX, () -> x.permit(1, -1, true));
        x.next();
        Check.due("of a day that is over", x.permit(1, 0, false), 29);
    }

    /** minutes: "0 to 300"; "Returns how long it took": 60 at first, and what was told last. */
    private static void promise14() {
        Stripboard x = new Stripboard();
        x.place(0);
        Check.refused("no other", Check.INDEX, () -> x.move(0, 1, 0));
        Check.refused("both are one", Check.ARGUMENT, () -> x.move(0, 0, 0));
        x.place(0);
        Check.due("60", x.move(0, 1, 300), 60);
        Check.due("300", x.move(1, 0, 0), 300);
        Check.due("0", x.move(0, 1, 60), 0);
        Check.refused("-1", Check.ARGUMENT, () -> x.move(0, 1, -1));
        Check.refused("301", Check.ARGUMENT, () -> x.move(0, 1, 301));
        Check.refused("place 2", Check.INDEX, () -> x.move(2, 0, 0));
        Check.refused("place -1", Check.INDEX, () -> x.move(-1, 0, 0));
        Check.refused("other 2", Check.INDEX, () -> x.move(0, 2, 0));
        Check.refused("other -1", Check.INDEX, () -> x.move(0, -1, 0));
        Check.due("as told", x.move(1, 0, 1), 60);
    }

    /** start: "0 to 1200"; from: "0 to 1440"; to: "from to 1440" */
    private static void promise15() {
        Stripboard x = Film.of(1, 0);
        x.scene(NONE, 0, true, false, 1);
        x.put(0, 29, 0);
        int[][] taken = {{0, 0, 0, 2}, {0, 0, 14, 2}, {0, 0, 15, 0}, {1200, 1440, 1440, 2}, {1200, 1200, 1215, 0},
            {1200, 0, 1440, 0}, {1200, 1201, 1440, 2}};
        for (int[] row : taken) {
            x.light(29, row[0], row[1], row[2]);
            Check.due("start", x.ofScene(0, 2), row[0]);
            Check.due("light", x.ofScene(0, 4), row[3]);
        }
        int[][] refused = {{-1, 0, 0}, {1201, 0, 0}, {0, -1, 0}, {0, 1441, 1441}, {0, 1, 0}, {0, 1440, 1439}, {0, 0, -1},
            {0, 0, 1441}};
        for (int[] row : refused) Check.refused("light", Check.ARGUMENT, () -> x.light(29, row[0], row[1], row[2]));
        Check.refused("day -1", Check.INDEX, () -> x.light(-1, 480, 0, 1440));
        Check.refused("day 30", Check.INDEX, () -> x.light(30, 480, 0, 1440));
        Check.due("as it was", x.ofScene(0, 2), 1200);
        Stripboard y = Film.of(1, 1);
        y.put(0, 0, 0);
        y.shoot(0, 10);
        y.next();
        y.light(0, 100, 0, 1440);
        Check.due("of a day that is over", y.ofScene(0, 3), 110);
    }

    /** at: "from 0: its place in the row"; "Returns its faults then": from 0 on. */
    private static void promise16() {
        for (int many = 0; many <= 7; many++) {
            for (int at = 0; at <= many; at++) {
                Stripboard x = Film.of(1, 9);
                for (int i = 0; i < many; i++) x.put(i, 4, i);
                int above = many + 1;
                Check.refused("above", Check.INDEX, () -> x.put(8, 4, above));
                Check.refused("below", Check.INDEX, () -> x.put(8, 4, -1));
                Check.due("put", x.put(8, 4, at), 0);
                for (int i = 0; i <= many; i++) {
                    Check.due("the row", x.strip(4, i), i == at ? 8 : i < at ? i : i - 1);
                }
                Check.due("no more", x.strip(4, above), NONE);
            }
        }
        Stripboard x = Film.of(1, 3);
        x.next();
        Check.refused("over", Check.STATE, () -> x.put(0, 0, 0));
        Check.refused("above that of a day that is over", Check.INDEX, () -> x.put(0, 0, 1));
        Check.due("that of now", x.put(0, 1, 0), 0);
        Check.due("the last", x.put(1, 29, 0), 0);
        Check.refused("on the board", Check.STATE, () -> x.put(1, 1, 0));
    }

    /** "Returns the day on which it was": 0 to 29. */
    private static void promise17() {
        Stripboard x = Film.of(1, 1);
        for (int day = 0; day < 30; day++) {
            x.put(0, day, 0);
            Check.due("its day", x.take(0), day);
            Check.due("off", x.strip(day, 0), NONE);
            Check.refused("not on the board", Check.STATE, () -> x.take(0));
        }
        Check.refused("scene -1", Check.INDEX, () -> x.take(-1));
        Check.refused("scene 1", Check.INDEX, () -> x.take(1));
        for (int at = 0; at < 8; at++) {
            Stripboard y = Film.of(1, 8);
            for (int i = 0; i < 8; i++) y.put(i, 0, i);
            y.take(at);
            for (int i = 0; i < 7; i++) Check.due("the row closes", y.strip(0, i), i < at ? i : i + 1);
            Check.due("seven", y.strip(0, 7), NONE);
        }
    }

    /** "returns how many scenes were put": 0 to 20. */
    private static void promise18() {
        for (int many = 0; many <= 20; many++) {
            Stripboard x = Film.of(1, many);
            Check.due("all", x.fill(), many);
            Check.due("none", x.fill(), 0);
        }
    }

    /** "Returns how many scenes were put on other days": 0 to 8. */
    private static void promise19() {
        for (int many = 0; many <= 8; many++) {
            for (int day = 0; day < 30; day += 29) {
                Stripboard x = Film.of(1, 8);
                Film.person(x, 0, 1);
                x.ill(0, day, true);
                for (int i = 0; i < 8; i++) {
                    if (i < many) x.needs(i, 1);
                    x.put(i, day, i);
                }
                Check.due("mended", x.mend(day), many);
                for (int i = 0; i < 8; i++) Check.due("its day", x.ofScene(i, 1), i < many ? (day == 0 ? 1 : 0) : day);
            }
        }
        Stripboard x = Film.of(1, 0);
        Check.refused("day -1", Check.INDEX, () -> x.mend(-1));
        Check.refused("day 30", Check.INDEX, () -> x.mend(30));
        x.next();
        Check.refused("over", Check.STATE, () -> x.mend(0));
        Check.due("that of now", x.mend(1), 0);
    }

    /** at: "from 0"; "Returns the scene; NONE if there are not so many." */
    private static void promise20() {
        Stripboard x = Film.of(1, 9);
        for (int i = 0; i < 8; i++) {
            for (int at = i; at <= 8; at++) Check.due("not so many", x.strip(29, at), NONE);
            x.put(i, 29, i);
            Check.due("the last", x.strip(29, i), i);
        }
        Check.due("never so many", x.strip(29, 8), NONE);
        Check.due("never so many", x.strip(29, Integer.MAX_VALUE), NONE);
        Check.due("of a day with none", x.strip(0, 0), NONE);
        Check.refused("at -1", Check.INDEX, () -> x.strip(29, -1));
        Check.refused("day -1", Check.INDEX, () -> x.strip(-1, 0));
        Check.refused("day 30", Check.INDEX, () -> x.strip(30, 0));
    }

    /** what: 0 to 4; "NONE for 1 to 4 if it is on no day" */
    private static void promise21() {
        Stripboard x = Film.of(1, 4);
        x.put(0, 0, 0);
        x.put(1, 0, 1);
        x.put(2, 1, 0);
        x.shoot(0, 20);
        x.next();
        x.omit(3);
        int[][] due = {{Stripboard.SHOT, 0, 480, 500, 0}, {Stripboard.OWED, NONE, NONE, NONE, NONE},
            {Stripboard.PLACED, 1, 480, 500, 0}, {Stripboard.OMITTED, NONE, NONE, NONE, NONE}};
        for (int i = 0; i < 4; i++) {
            int scene = i;
            for (int what = 0; what < 5; what++) Check.due("number " + what, x.ofScene(i, what), due[i][what]);
            Check.refused("-1", Check.ARGUMENT, () -> x.ofScene(scene, -1));
            Check.refused("5", Check.ARGUMENT, () -> x.ofScene(scene, 5));
        }
        x.scene(0, 0, true, true, 1);
        for (int what = 0; what < 5; what++) Check.due("OPEN", x.ofScene(4, what), what == 0 ? Stripboard.OPEN : NONE);
        Check.refused("scene 5", Check.INDEX, () -> x.ofScene(5, 0));
        Check.refused("scene -1", Check.INDEX, () -> x.ofScene(-1, 0));
    }

    /** "the minute of the day, which may be below 0 or above 1440; -10000 if they do not work" */
    private static void promise22() {
        Stripboard x = Film.of(1, 1);
        x.person(0, 1, 180, false);
        Check.due("no work", x.call(0, 0, false), -10000);
        x.needs(0, 1);
        Check.due("off the board", x.call(0, 0, true), -10000);
        x.put(0, 0, 0);
        x.light(0, 0, 0, 1440);
        Check.due("below 0", x.call(0, 0, false), -180);
        x.light(0, 1200, 0, 1440);
        x.shoot(0, 1000);
        Check.due("above 1440", x.call(0, 0, true), 2230);
        Check.due("the call is behind lunch", x.call(0, 0, false), 1050);
        Check.due("another day", x.call(0, 29, true), -10000);
        Check.refused("person -1", Check.INDEX, () -> x.call(-1, 0, true));
        Check.refused("person 1", Check.INDEX, () -> x.call(1, 0, true));
        Check.refused("day -1", Check.INDEX, () -> x.call(0, -1, true));
        Check.refused("day 30", Check.INDEX, () -> x.call(0, 30, true));
    }

    /** minutes: "1 to 1000: how long it lasted"; "Returns how long an eighth lasts then." */
    private static void promise23() {
        int[][] eighthsMinutesAndEighth = {{1, 1, 1}, {1, 1000, 1000}, {32, 1, 1}, {32, 1000, 32}, {32, 960, 30}, {32, 961, 31}};
        for (int[] row : eighthsMinutesAndEighth) {
            Stripboard x = Film.of(1, 1, row[0]);
            x.put(0, 0, 0);
            Check.refused("0", Check.ARGUMENT, () -> x.shoot(0, 0));
            Check.refused("1001", Check.ARGUMENT, () -> x.shoot(0, 1001));
            Check.due("an eighth", x.shoot(0, row[1]), row[2]);
            Check.refused("shot", Check.STATE, () -> x.shoot(0, row[1]));
        }
        Stripboard x = Film.of(1, 3);
        x.put(0, 0, 0);
        x.put(1, 1, 0);
        Check.refused("on the next day", Check.STATE, () -> x.shoot(1, 1));
        Check.refused("on none", Check.STATE, () -> x.shoot(2, 1));
        Check.refused("scene 3", Check.INDEX, () -> x.shoot(3, 1));
        Check.refused("scene -1", Check.INDEX, () -> x.shoot(-1, 1));
        x.shoot(0, 15);
        x.next();
        Check.refused("on a day that is over", Check.STATE, () -> x.shoot(0, 1));
        Check.due("on that of now", x.shoot(1, 15), 15);
    }

    /** "Returns how many scenes are OWED": 1 to 20. */
    private static void promise24() {
        Stripboard x = Film.of(1, 20);
        for (int i = 0; i < 20; i++) {
            int scene = i;
            Check.refused("not shot", Check.STATE, () -> x.lose(scene));
            x.put(i, 0, 0);
            Check.refused("not shot", Check.STATE, () -> x.lose(scene));
            x.shoot(i, 15);
            Check.due("one more", x.lose(i), i + 1);
            Check.refused("lost", Check.STATE, () -> x.lose(scene));
        }
        Check.refused("scene -1", Check.INDEX, () -> x.lose(-1));
        Check.refused("scene 20", Check.INDEX, () -> x.lose(20));
    }

    /** "Returns how many scenes are OWED": 0 to 8 of one day. "if it is 29" */
    private static void promise25() {
        for (int many = 0; many <= 8; many++) {
            Stripboard x = Film.of(1, 8);
            for (int i = 0; i < many; i++) x.put(i, 0, i);
            Check.due("owed", x.next(), many);
        }
        Stripboard x = new Stripboard();
        for (int day = 0; day < 29; day++) Check.due("the day " + day, x.next(), 0);
        for (int i = 0; i < 3; i++) Check.refused("it is 29", Check.STATE, x::next);
    }

    /** "Returns the money": none, and for each of the eight. */
    private static void promise26() {
        Stripboard x = Film.of(1, 1);
        for (int i = 0; i < 8; i++) {
            int next = i;
            Check.refused("not there", Check.INDEX, () -> x.pay(next, true));
            Film.person(x, i % 3, 1000 - i);
            Check.due("nothing", x.pay(i, false), 0);
        }
        x.needs(0, 255);
        x.put(0, 29, 0);
        for (int i = 0; i < 8; i++) {
            Check.due("a day", x.pay(i, false), 1000 - i);
            Check.due("nothing besides", x.pay(i, true), 0);
        }
        Check.refused("person -1", Check.INDEX, () -> x.pay(-1, false));
        Check.refused("person 8", Check.INDEX, () -> x.pay(8, false));
    }

    /** "Returns what all costs": nothing, a place alone, people alone, and both. */
    private static void promise27() {
        Stripboard x = new Stripboard();
        Check.due("nothing", x.cost(), 0);
        x.place(1000);
        x.place(0);
        Film.person(x, Stripboard.BY_DAY, 1);
        Check.due("nothing on the board", x.cost(), 0);
        x.scene(NONE, 0, true, true, 1);
        x.scene(NONE, 1, true, true, 1);
        x.needs(1, 1);
        x.put(0, 0, 0);
        Check.due("a place", x.cost(), 1000);
        x.put(1, 29, 0);
        Check.due("a person, and a place for nothing", x.cost(), 1001);
        x.take(0);
        Check.due("a person", x.cost(), 1);
    }
}
