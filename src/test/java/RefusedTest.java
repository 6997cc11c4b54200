import java.util.function.Consumer;
import java.util.function.Supplier;

/**
 * "A call that throws an exception changes nothing; if several exceptions apply, the one that its @throws lines name
 * first is thrown": each refused call, held against an object that was never called so.
 */
public final class RefusedTest {
    private static final int NONE = Stripboard.NONE;
    private static final int FAR = Integer.MAX_VALUE;
    private static final int LOW = Integer.MIN_VALUE;

    public static void main(String[] args) {
        empty();
        scene();
        lock();
        omitAndLabel();
        needs();
        look();
        clashes();
        bind();
        person();
        ill();
        place();
        permit();
        move();
        light();
        put();
        take();
        mend();
        strip();
        ofScene();
        call();
        shoot();
        lose();
        next();
        pay();
        Check.end("RefusedTest");
    }

    /** The call throws that, and then the object answers all that an object answers on which it was not tried. */
    private static void refused(String what, Supplier<Stripboard> made, Class<?> kind, Consumer<Stripboard> call) {
        for (int part = 0; part < Probe.PARTS; part++) {
            Stripboard tried = made.get();
            Check.refused(what, kind, () -> call.accept(tried));
            boolean same = Probe.part(tried, part).equals(Probe.part(made.get(), part));
            Check.due(what + ": the same in part " + part, same, true);
        }
    }

    private static void refusedRich(String what, Class<?> kind, Consumer<Stripboard> call) {
        refused(what, RefusedTest::rich, kind, call);
    }

    private static void refusedFull(String what, Class<?> kind, Consumer<Stripboard> call) {
        refused(what, RefusedTest::full, kind, call);
    }

    /**
     * On day 2, locked: the scenes 0 and 1 are shot (on the days 0 and 2), 2 and 3 placed (on the days 2 and 5), 4 owed,
     * 5 omitted, 6 open, and 7 lost; three places, three people.
     */
    private static Stripboard rich() {
        Stripboard x = new Stripboard();
        x.place(10);
        x.place(20);
        x.place(30);
        x.person(Stripboard.BY_DAY, 100, 30, false);
        x.person(Stripboard.BY_WEEK, 200, 0, true);
        x.person(Stripboard.FOR_RUN, 300, 180, false);
        for (int i = 0; i < 8; i++) {
            x.scene(i - 1, i % 3, true, i % 2 == 0, 4 + i);
            x.needs(i, 1 + i % 7);
        }
        x.move(0, 1, 20);
        x.ill(1, 5, true);
        x.ill(0, 9, true);
        x.permit(1, 4, false);
        x.light(5, 500, 510, 700);
        x.look(0, 1, false, 3);
        x.look(3, 1, true, 3);
        x.look(4, 2, true, 7);
        x.bind(3, 2);
        x.bind(6, 4);
        x.lock();
        x.put(0, 0, 0);
        x.put(4, 0, 1);
        x.shoot(0, 50);
        x.next();
        x.next();
        x.put(7, 2, 0);
        x.put(1, 2, 1);
        x.put(2, 2, 2);
        x.put(3, 5, 0);
        x.shoot(7, 90);
        x.shoot(1, 70);
        x.lose(7);
        x.omit(5);
        return x;
    }

    /** 20 scenes, 8 people and 6 places; the day 3 has 8 scenes, the day 4 has one, 12 was shot on the day 0. */
    private static Stripboard full() {
        Stripboard x = new Stripboard();
        for (int i = 0; i < 6; i++) x.place(i);
        for (int i = 0; i < 8; i++) x.person(i % 3, 10 + i, i, i == 7);
        for (int i = 0; i < 20; i++) x.scene(i - 1, i % 6, true, true, 1);
        for (int i = 0; i < 8; i++) x.put(i, 3, i);
        x.put(8, 4, 0);
        x.put(12, 0, 0);
        x.shoot(12, 15);
        return x;
    }

    private static Stripboard lastDay() {
        Stripboard x = rich();
        for (int day = 2; day < 29; day++) x.next();
        return x;
    }

    /** A new object has no scenes, people and places: there is nothing to tell of. */
    private static void empty() {
        Supplier<Stripboard> made = Stripboard::new;
        refused("scene of no place", made, Check.INDEX, x -> x.scene(NONE, 0, true, true, 1));
        refused("scene behind none", made, Check.INDEX, x -> x.scene(0, 0, true, true, 1));
        refused("omit", made, Check.INDEX, x -> x.omit(0));
        refused("label", made, Check.INDEX, x -> x.label(0));
        refused("needs", made, Check.INDEX, x -> x.needs(0, 0));
        refused("look", made, Check.INDEX, x -> x.look(0, 0, true, 0));
        refused("clashes", made, Check.INDEX, x -> x.clashes(0));
        refused("bind", made, Check.INDEX, x -> x.bind(0, 0));
        refused("ill", made, Check.INDEX, x -> x.ill(0, 0, true));
        refused("permit", made, Check.INDEX, x -> x.permit(0, 0, true));
        refused("move", made, Check.INDEX, x -> x.move(0, 0, 0));
        refused("put", made, Check.INDEX, x -> x.put(0, 0, 0));
        refused("take", made, Check.INDEX, x -> x.take(0));
        refused("ofScene", made, Check.INDEX, x -> x.ofScene(0, 0));
        refused("call", made, Check.INDEX, x -> x.call(0, 0, true));
        refused("shoot", made, Check.INDEX, x -> x.shoot(0, 1));
        refused("lose", made, Check.INDEX, x -> x.lose(0));
        refused("pay", made, Check.INDEX, x -> x.pay(0, true));
    }

    private static void scene() {
        for (int behind : new int[] {8, -2, 20, FAR, LOW}) {
            refusedRich("scene behind " + behind, Check.INDEX, x -> x.scene(behind, 0, true, true, 1));
            refusedRich("index first", Check.INDEX, x -> x.scene(behind, 0, true, true, 33));
        }
        for (int place : new int[] {3, -1, 6, FAR, LOW}) {
            refusedRich("scene of place " + place, Check.INDEX, x -> x.scene(0, place, true, true, 1));
            refusedRich("index first", Check.INDEX, x -> x.scene(NONE, place, true, true, 0));
        }
        for (int eighths : new int[] {0, 33, -1, FAR, LOW}) {
            refusedRich(eighths + " eighths", Check.ARGUMENT, x -> x.scene(0, 0, true, true, eighths));
            refusedFull("argument ahead of state", Check.ARGUMENT, x -> x.scene(19, 5, true, true, eighths));
        }
        refusedFull("there are 20", Check.STATE, x -> x.scene(19, 5, true, true, 32));
        refusedFull("there are 20", Check.STATE, x -> x.scene(NONE, 0, false, false, 1));
        refusedFull("index ahead of state", Check.INDEX, x -> x.scene(20, 0, true, true, 1));
        refusedFull("index ahead of state", Check.INDEX, x -> x.scene(0, 6, true, true, 1));
        refusedFull("index ahead of all", Check.INDEX, x -> x.scene(0, 6, true, true, 0));
    }

    private static void lock() {
        refusedRich("locked", Check.STATE, Stripboard::lock);
        Supplier<Stripboard> nothing = () -> {
            Stripboard x = new Stripboard();
            x.lock();
            return x;
        };
        refused("locked with nothing", nothing, Check.STATE, Stripboard::lock);
    }

    private static void omitAndLabel() {
        for (int scene : new int[] {8, -1, 20, FAR, LOW}) {
            refusedRich("omit " + scene, Check.INDEX, x -> x.omit(scene));
            refusedRich("label " + scene, Check.INDEX, x -> x.label(scene));
        }
        refusedRich("omitted", Check.STATE, x -> x.omit(5));
        refusedRich("shot, over", Check.STATE, x -> x.omit(0));
        refusedRich("shot today", Check.STATE, x -> x.omit(1));
        refusedFull("omit 20", Check.INDEX, x -> x.omit(20));
        refusedFull("label 20", Check.INDEX, x -> x.label(20));
    }

    private static void needs() {
        for (int scene : new int[] {8, -1, FAR, LOW}) {
            refusedRich("needs of " + scene, Check.INDEX, x -> x.needs(scene, 1));
            refusedRich("index first", Check.INDEX, x -> x.needs(scene, -1));
        }
        for (int people : new int[] {8, 9, 15, 16, 128, 256, -1, -8, FAR, LOW}) {
            refusedRich("needs " + people, Check.ARGUMENT, x -> x.needs(2, people));
        }
        for (int people : new int[] {256, 257, 511, -1, FAR, LOW}) {
            refusedFull("needs " + people, Check.ARGUMENT, x -> x.needs(0, people));
        }
    }

    private static void look() {
        for (int scene : new int[] {8, -1, FAR, LOW}) {
            refusedRich("look of " + scene, Check.INDEX, x -> x.look(scene, 0, true, 9));
            refusedRich("index first", Check.INDEX, x -> x.look(scene, 0, false, 10));
        }
        for (int thing : new int[] {4, -1, FAR, LOW}) {
            refusedRich("look of thing " + thing, Check.INDEX, x -> x.look(3, thing, false, 9));
            refusedRich("index first", Check.INDEX, x -> x.look(3, thing, true, -2));
        }
        for (int look : new int[] {10, -2, FAR, LOW}) {
            refusedRich("wants " + look, Check.ARGUMENT, x -> x.look(3, 1, true, look));
            refusedRich("leaves " + look, Check.ARGUMENT, x -> x.look(0, 1, false, look));
        }
    }

    private static void clashes() {
        for (int scene : new int[] {8, -1, FAR, LOW}) refusedRich("clashes", Check.INDEX, x -> x.clashes(scene));
        refusedFull("clashes 20", Check.INDEX, x -> x.clashes(20));
    }

    private static void bind() {
        for (int scene : new int[] {8, -1, FAR, LOW}) {
            refusedRich("bind " + scene, Check.INDEX, x -> x.bind(scene, 0));
            refusedRich("bind behind " + scene, Check.INDEX, x -> x.bind(0, scene));
            refusedRich("index ahead of both are one", Check.INDEX, x -> x.bind(scene, scene));
        }
        refusedFull("bind 20", Check.INDEX, x -> x.bind(20, 0));
        refusedFull("bind behind 20", Check.INDEX, x -> x.bind(0, 20));
        refusedRich("both are one", Check.STATE, x -> x.bind(0, 0));
        refusedRich("both are one, bound", Check.STATE, x -> x.bind(3, 3));
        refusedRich("round by two", Check.STATE, x -> x.bind(2, 3));
        refusedRich("round by two", Check.STATE, x -> x.bind(4, 6));
        Supplier<Stripboard> chain = () -> {
            Stripboard x = full();
            for (int i = 0; i < 19; i++) x.bind(i + 1, i);
            return x;
        };
        refused("round by 20", chain, Check.STATE, x -> x.bind(0, 19));
        refused("round by 3", chain, Check.STATE, x -> x.bind(5, 7));
        refused("both are one in a chain", chain, Check.STATE, x -> x.bind(7, 7));
    }

    private static void person() {
        for (int deal : new int[] {-1, 3, FAR, LOW}) {
            refusedRich("deal " + deal, Check.ARGUMENT, x -> x.person(deal, 1, 0, true));
            refusedFull("argument ahead of state", Check.ARGUMENT, x -> x.person(deal, 1, 0, true));
        }
        for (int rate : new int[] {0, 1001, -1, FAR, LOW}) {
            refusedRich("rate " + rate, Check.ARGUMENT, x -> x.person(0, rate, 0, true));
            refusedFull("argument ahead of state", Check.ARGUMENT, x -> x.person(0, rate, 0, true));
        }
        for (int prepare : new int[] {-1, 181, FAR, LOW}) {
            refusedRich("prepare " + prepare, Check.ARGUMENT, x -> x.person(2, 1000, prepare, false));
            refusedFull("argument ahead of state", Check.ARGUMENT, x -> x.person(2, 1000, prepare, false));
        }
        refusedFull("there are 8", Check.STATE, x -> x.person(0, 1, 0, false));
        refusedFull("there are 8", Check.STATE, x -> x.person(2, 1000, 180, true));
    }

    private static void ill() {
        for (int person : new int[] {3, -1, 8, 31, 32, FAR, LOW}) {
            refusedRich("ill " + person, Check.INDEX, x -> x.ill(person, 0, true));
            refusedRich("well " + person, Check.INDEX, x -> x.ill(person, 5, false));
        }
        for (int day : new int[] {30, -1, 31, 32, FAR, LOW}) {
            refusedRich("ill on " + day, Check.INDEX, x -> x.ill(0, day, true));
            refusedRich("well on " + day, Check.INDEX, x -> x.ill(1, day, false));
        }
        refusedFull("ill 8", Check.INDEX, x -> x.ill(8, 29, true));
    }

    private static void place() {
        for (int cost : new int[] {-1, 1001, FAR, LOW}) {
            refusedRich("cost " + cost, Check.ARGUMENT, x -> x.place(cost));
            refusedFull("argument ahead of state", Check.ARGUMENT, x -> x.place(cost));
        }
        refusedFull("there are 6", Check.STATE, x -> x.place(0));
        refusedFull("there are 6", Check.STATE, x -> x.place(1000));
    }

    private static void permit() {
        for (int place : new int[] {3, -1, 6, 31, 32, FAR, LOW}) {
            refusedRich("permit of " + place, Check.INDEX, x -> x.permit(place, 0, false));
            refusedRich("permit of " + place, Check.INDEX, x -> x.permit(place, 4, true));
        }
        for (int day : new int[] {30, -1, 31, 32, FAR, LOW}) {
            refusedRich("permit on " + day, Check.INDEX, x -> x.permit(0, day, false));
            refusedRich("permit on " + day, Check.INDEX, x -> x.permit(1, day, true));
        }
        refusedFull("permit of 6", Check.INDEX, x -> x.permit(6, 29, false));
    }

    private static void move() {
        for (int place : new int[] {3, -1, 6, FAR, LOW}) {
            refusedRich("move from " + place, Check.INDEX, x -> x.move(place, 0, 5));
            refusedRich("move to " + place, Check.INDEX, x -> x.move(0, place, 5));
            refusedRich("index ahead of minutes", Check.INDEX, x -> x.move(place, 0, 301));
            refusedRich("index ahead of minutes", Check.INDEX, x -> x.move(0, place, -1));
            refusedRich("index ahead of both are one", Check.INDEX, x -> x.move(place, place, 5));
        }
        for (int minutes : new int[] {-1, 301, FAR, LOW}) {
            refusedRich("move of " + minutes, Check.ARGUMENT, x -> x.move(0, 1, minutes));
            refusedRich("both are one, too", Check.ARGUMENT, x -> x.move(1, 1, minutes));
        }
        for (int place = 0; place < 3; place++) {
            int both = place;
            refusedRich("both are one", Check.ARGUMENT, x -> x.move(both, both, 5));
        }
    }

    private static void light() {
        for (int day : new int[] {30, -1, FAR, LOW}) {
            refusedRich("light of " + day, Check.INDEX, x -> x.light(day, 100, 200, 300));
            refusedRich("index first", Check.INDEX, x -> x.light(day, -1, -1, -1));
        }
        for (int day : new int[] {0, 5, 29}) {
            for (int start : new int[] {-1, 1201, FAR, LOW}) {
                refusedRich("start " + start, Check.ARGUMENT, x -> x.light(day, start, 1000, 1010));
            }
            for (int from : new int[] {-1, 1441, FAR, LOW}) {
                refusedRich("from " + from, Check.ARGUMENT, x -> x.light(day, 100, from, 1440));
            }
            for (int to : new int[] {999, 1441, 0, -1, FAR, LOW}) {
                refusedRich("to " + to, Check.ARGUMENT, x -> x.light(day, 100, 1000, to));
            }
        }
    }

    private static void put() {
        for (int scene : new int[] {8, -1, FAR, LOW}) {
            refusedRich("put " + scene, Check.INDEX, x -> x.put(scene, 3, 0));
            refusedRich("index ahead of an over day", Check.INDEX, x -> x.put(scene, 0, 0));
        }
        for (int day : new int[] {30, -1, FAR, LOW}) {
            refusedRich("put on " + day, Check.INDEX, x -> x.put(6, day, 0));
            refusedRich("index ahead of a placed one", Check.INDEX, x -> x.put(3, day, 0));
        }
        for (int at : new int[] {-1, 2, 8, 9, FAR, LOW}) {
            refusedRich("put at " + at, Check.INDEX, x -> x.put(6, 5, at));
            refusedRich("index ahead of a placed one", Check.INDEX, x -> x.put(3, 5, at));
            refusedRich("index ahead of an omitted one", Check.INDEX, x -> x.put(5, 5, at));
            refusedRich("index ahead of an over day", Check.INDEX, x -> x.put(6, 0, at));
        }
        refusedRich("at 1 of an empty day", Check.INDEX, x -> x.put(6, 29, 1));
        refusedRich("placed", Check.STATE, x -> x.put(3, 6, 0));
        refusedRich("placed there", Check.STATE, x -> x.put(3, 5, 1));
        refusedRich("shot", Check.STATE, x -> x.put(0, 6, 0));
        refusedRich("shot today", Check.STATE, x -> x.put(1, 2, 0));
        refusedRich("omitted", Check.STATE, x -> x.put(5, 6, 0));
        refusedRich("over, the first day", Check.STATE, x -> x.put(6, 0, 1));
        refusedRich("over, yesterday", Check.STATE, x -> x.put(6, 1, 0));
        refusedFull("the day has 8", Check.STATE, x -> x.put(9, 3, 8));
        refusedFull("the day has 8", Check.STATE, x -> x.put(9, 3, 0));
        refusedFull("at 9 of 8", Check.INDEX, x -> x.put(9, 3, 9));
        refusedFull("at -1 of 8", Check.INDEX, x -> x.put(9, 3, -1));
    }

    private static void take() {
        for (int scene : new int[] {8, -1, FAR, LOW}) refusedRich("take " + scene, Check.INDEX, x -> x.take(scene));
        refusedFull("take 20", Check.INDEX, x -> x.take(20));
        String[] how = {"shot", "shot today", "", "", "owed", "omitted", "open", "lost"};
        for (int i = 0; i < how.length; i++) {
            int scene = i;
            if (!how[i].isEmpty()) refusedRich("take " + how[i], Check.STATE, x -> x.take(scene));
        }
    }

    private static void mend() {
        for (int day : new int[] {30, -1, FAR, LOW}) refusedRich("mend " + day, Check.INDEX, x -> x.mend(day));
        Supplier<Stripboard> ill = () -> {
            Stripboard x = rich();
            for (int day = 0; day < 3; day++) x.ill(0, day, true);
            return x;
        };
        refused("over, the first day", ill, Check.STATE, x -> x.mend(0));
        refused("over, yesterday", ill, Check.STATE, x -> x.mend(1));
        refused("over on the last day", RefusedTest::lastDay, Check.STATE, x -> x.mend(28));
    }

    private static void strip() {
        for (int day : new int[] {30, -1, FAR, LOW}) {
            refusedRich("strip of " + day, Check.INDEX, x -> x.strip(day, 0));
            refusedRich("strip of " + day, Check.INDEX, x -> x.strip(day, -1));
        }
        for (int at : new int[] {-1, LOW}) refusedRich("strip at " + at, Check.INDEX, x -> x.strip(5, at));
    }

    private static void ofScene() {
        for (int scene : new int[] {8, -1, FAR, LOW}) {
            refusedRich("number of " + scene, Check.INDEX, x -> x.ofScene(scene, 0));
            refusedRich("index first", Check.INDEX, x -> x.ofScene(scene, 5));
        }
        for (int what : new int[] {-1, 5, FAR, LOW}) {
            for (int i = 0; i < 8; i++) {
                int scene = i;
                refusedRich("number " + what, Check.ARGUMENT, x -> x.ofScene(scene, what));
            }
        }
    }

    private static void call() {
        for (int person : new int[] {3, -1, 8, FAR, LOW}) {
            refusedRich("call of " + person, Check.INDEX, x -> x.call(person, 0, false));
        }
        for (int day : new int[] {30, -1, FAR, LOW}) {
            refusedRich("call on " + day, Check.INDEX, x -> x.call(0, day, true));
        }
    }

    private static void shoot() {
        for (int scene : new int[] {8, -1, FAR, LOW}) {
            refusedRich("shoot " + scene, Check.INDEX, x -> x.shoot(scene, 1));
            refusedRich("index first", Check.INDEX, x -> x.shoot(scene, 0));
        }
        for (int minutes : new int[] {0, 1001, -1, FAR, LOW}) {
            refusedRich("shoot for " + minutes, Check.ARGUMENT, x -> x.shoot(2, minutes));
            for (int i = 0; i < 8; i++) {
                int scene = i;
                refusedRich("argument ahead of state", Check.ARGUMENT, x -> x.shoot(scene, minutes));
            }
        }
        String[] how = {"shot, over", "shot today", "", "on a later day", "owed", "omitted", "open", "lost"};
        for (int i = 0; i < how.length; i++) {
            int scene = i;
            if (!how[i].isEmpty()) refusedRich("shoot " + how[i], Check.STATE, x -> x.shoot(scene, 60));
        }
    }

    private static void lose() {
        for (int scene : new int[] {8, -1, FAR, LOW}) refusedRich("lose " + scene, Check.INDEX, x -> x.lose(scene));
        for (int i = 2; i < 8; i++) {
            int scene = i;
            refusedRich("lose one that is not shot", Check.STATE, x -> x.lose(scene));
        }
    }

    private static void next() {
        refused("it is 29", RefusedTest::lastDay, Check.STATE, Stripboard::next);
        Supplier<Stripboard> placed = () -> {
            Stripboard x = lastDay();
            x.put(6, 29, 0);
            return x;
        };
        refused("it is 29, with a scene", placed, Check.STATE, Stripboard::next);
    }

    private static void pay() {
        for (int person : new int[] {3, -1, 8, FAR, LOW}) {
            refusedRich("pay of " + person, Check.INDEX, x -> x.pay(person, false));
            refusedRich("pay of " + person, Check.INDEX, x -> x.pay(person, true));
        }
        refusedFull("pay of 8", Check.INDEX, x -> x.pay(8, false));
    }
}
