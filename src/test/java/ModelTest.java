import java.util.ArrayList;
import java.util.List;
import java.util.Random;

/** All promises: long runs of calls, right and wrong ones, with the answers of Model; the seeds are fixed. */
public final class ModelTest {
    private static final int RUNS = 800;
    private static final int CALLS = 512;

    private interface Asked {
        long run();
    }

    private final Stripboard x = new Stripboard();
    private final Model m = new Model();
    private final Random random;
    private final int wild;
    private final List<String> told = new ArrayList<>();

    private ModelTest(long seed) {
        random = new Random(seed);
        wild = seed % 4 == 0 ? 6 : 60;
    }

    public static void main(String[] args) {
        for (long seed = 0; seed < RUNS; seed++) {
            if (!new ModelTest(seed).agrees()) {
                Check.fail("seed " + seed);
                break;
            }
            Check.due("seed " + seed, true, true);
        }
        Check.end("ModelTest");
    }

    private boolean agrees() {
        int begin = random.nextInt(3) * 12;
        for (int call = 0; call < CALLS; call++) {
            String before = call % 8 == 0 ? dump(true) : null;
            if (!(call < begin ? build() : step())) {
                System.out.println(String.join("\n", told));
                return false;
            }
            boolean threw = told.get(told.size() - 1).contains("Exception");
            if (before != null && threw && !before.equals(dump(true))) return wrong("a call that throws changed something");
            if (call % 32 == 31 && !dump(true).equals(dump(false))) return wrong("the states differ");
        }
        return true;
    }

    private boolean wrong(String what) {
        System.out.println(String.join("\n", told));
        System.out.println(what);
        System.out.println(dump(true));
        System.out.println(dump(false));
        return false;
    }

    private static String answer(Asked asked) {
        try {
            return Long.toString(asked.run());
        } catch (IndexOutOfBoundsException | IllegalArgumentException | IllegalStateException e) {
            return e.getClass().getSimpleName();
        }
    }

    private boolean same(String call, Asked program, Asked model) {
        String got = answer(program);
        String want = answer(model);
        told.add(call + " -> " + got);
        if (got.equals(want)) return true;
        told.add("due is " + want);
        return false;
    }

    private int number(int low, int high) {
        if (random.nextInt(wild) == 0) {
            int[] edges = {low - 1, high + 1, low, high, Integer.MIN_VALUE, Integer.MAX_VALUE, -1, 32};
            return edges[random.nextInt(edges.length)];
        }
        return low + random.nextInt(Math.max(1, high - low + 1));
    }

    private int aScene() {
        return number(0, m.scenes.size() - 1);
    }

    private int aPerson() {
        return number(0, m.people.size() - 1);
    }

    private int aPlace() {
        return number(0, m.places.size() - 1);
    }

    /** Mostly days that are near that of now. */
    private int aDay() {
        return random.nextInt(3) == 0 ? number(0, 29) : number(m.now, Math.min(29, m.now + 7));
    }

    private boolean yes() {
        return random.nextBoolean();
    }

    private boolean build() {
        int kind = random.nextInt(3);
        if (kind == 0) return person();
        return kind == 1 ? place() : scene();
    }

    private boolean step() {
        int kind = random.nextInt(100);
        if (kind < 7) return scene();
        if (kind < 10) return person();
        if (kind < 12) return place();
        if (kind < 30) return tellScene(kind);
        if (kind < 44) return tellDay(kind);
        if (kind < 75) return onBoard(kind);
        if (kind < 84) return shooting(kind);
        return ask(kind);
    }

    private boolean scene() {
        int a = random.nextInt(4) == 0 ? -1 : aScene();
        int b = aPlace();
        boolean c = yes();
        boolean d = yes();
        int e = number(1, random.nextInt(3) == 0 ? 32 : 8);
        return same("scene(" + a + ", " + b + ", " + c + ", " + d + ", " + e + ")",
                () -> x.scene(a, b, c, d, e), () -> m.scene(a, b, c, d, e));
    }

    private boolean person() {
        int a = number(0, 2);
        int b = number(1, 1000);
        int c = number(0, 180);
        boolean d = yes();
        return same("person(" + a + ", " + b + ", " + c + ", " + d + ")",
                () -> x.person(a, b, c, d), () -> m.person(a, b, c, d));
    }

    private boolean place() {
        int a = number(0, 1000);
        return same("place(" + a + ")", () -> x.place(a), () -> m.place(a));
    }

    private boolean tellScene(int kind) {
        int a = aScene();
        int b = aScene();
        if (kind < 18) {
            int p = number(0, (1 << m.people.size()) - 1) & (yes() ? -1 : number(0, 255));
            return same("needs(" + a + ", " + p + ")", () -> x.needs(a, p), () -> m.needs(a, p));
        }
        if (kind < 24) {
            int thing = number(0, 3);
            boolean wants = yes();
            int look = number(-1, 2);
            return same("look(" + a + ", " + thing + ", " + wants + ", " + look + ")",
                    () -> x.look(a, thing, wants, look), () -> m.look(a, thing, wants, look));
        }
        if (kind < 28) return same("bind(" + a + ", " + b + ")", () -> x.bind(a, b), () -> m.bind(a, b));
        if (kind == 28 && random.nextInt(3) == 0) return same("omit(" + a + ")", () -> x.omit(a), () -> m.omit(a));
        if (random.nextInt(12) == 0) return same("lock()", () -> x.lock(), () -> m.lock());
        return same("clashes(" + a + ")", () -> x.clashes(a) ? 1 : 0, () -> m.clashes(a) ? 1 : 0);
    }

    private boolean tellDay(int kind) {
        int day = aDay();
        if (kind < 34) {
            int a = aPerson();
            boolean ill = random.nextInt(3) > 0;
            return same("ill(" + a + ", " + day + ", " + ill + ")", () -> x.ill(a, day, ill), () -> m.ill(a, day, ill));
        }
        if (kind < 37) {
            int a = aPlace();
            boolean allowed = yes();
            return same("permit(" + a + ", " + day + ", " + allowed + ")",
                    () -> x.permit(a, day, allowed), () -> m.permit(a, day, allowed));
        }
        if (kind < 40) {
            int a = aPlace();
            int b = aPlace();
            int minutes = number(0, 300);
            return same("move(" + a + ", " + b + ", " + minutes + ")",
                    () -> x.move(a, b, minutes), () -> m.move(a, b, minutes));
        }
        int start = number(0, 1200);
        int from = number(0, yes() ? 400 : 1440);
        int to = number(Math.max(0, Math.min(from, 1440)), 1440);
        return same("light(" + day + ", " + start + ", " + from + ", " + to + ")", () -> {
            x.light(day, start, from, to);
            return 0;
        }, () -> m.light(day, start, from, to));
    }

    private boolean onBoard(int kind) {
        int a = aScene();
        int day = aDay();
        if (kind < 60) {
            int count = day >= 0 && day < 30 ? m.board.get(day).size() : 0;
            int at = number(0, count);
            return same("put(" + a + ", " + day + ", " + at + ")", () -> x.put(a, day, at), () -> m.put(a, day, at));
        }
        if (kind < 64) return same("take(" + a + ")", () -> x.take(a), () -> m.take(a));
        if (kind < 67) return same("fill()", () -> x.fill(), () -> m.fill());
        return same("mend(" + day + ")", () -> x.mend(day), () -> m.mend(day));
    }

    private boolean shooting(int kind) {
        int a = aScene();
        if (kind < 79) {
            List<Model.Sc> today = m.board.get(m.now);
            int b = today.isEmpty() || yes() ? a : today.get(random.nextInt(today.size())).id;
            int minutes = number(1, random.nextInt(4) == 0 ? 1000 : 150);
            return same("shoot(" + b + ", " + minutes + ")", () -> x.shoot(b, minutes), () -> m.shoot(b, minutes));
        }
        if (kind < 81) return same("lose(" + a + ")", () -> x.lose(a), () -> m.lose(a));
        if (random.nextInt(2) == 0) return same("next()", () -> x.next(), () -> m.next());
        return same("cost()", () -> x.cost(), () -> m.cost());
    }

    private boolean ask(int kind) {
        int a = aScene();
        int p = aPerson();
        int day = aDay();
        if (kind < 87) return same("label(" + a + ")", () -> x.label(a), () -> m.label(a));
        if (kind < 90) {
            int at = number(0, 8);
            return same("strip(" + day + ", " + at + ")", () -> x.strip(day, at), () -> m.strip(day, at));
        }
        if (kind < 94) {
            int what = number(0, 4);
            return same("ofScene(" + a + ", " + what + ")", () -> x.ofScene(a, what), () -> m.ofScene(a, what));
        }
        boolean flag = yes();
        if (kind < 97) {
            return same("call(" + p + ", " + day + ", " + flag + ")", () -> x.call(p, day, flag), () -> m.call(p, day, flag));
        }
        return same("pay(" + p + ", " + flag + ")", () -> x.pay(p, flag), () -> m.pay(p, flag));
    }

    /** All that can be asked, of the program or of the model. */
    private String dump(boolean program) {
        StringBuilder all = new StringBuilder();
        for (int i = 0; i < m.scenes.size(); i++) {
            all.append("\nscene ").append(i).append(": ").append(program ? x.label(i) : m.label(i));
            for (int what = 0; what < 5; what++) all.append(' ').append(program ? x.ofScene(i, what) : m.ofScene(i, what));
            all.append(' ').append(program ? x.clashes(i) : m.clashes(i));
        }
        for (int day = 0; day < 30; day++) {
            all.append("\nday ").append(day).append(':');
            for (int at = 0; at < 8; at++) all.append(' ').append(program ? x.strip(day, at) : m.strip(day, at));
            for (int i = 0; i < m.people.size(); i++) {
                all.append(' ').append(program ? x.call(i, day, false) : m.call(i, day, false));
                all.append(' ').append(program ? x.call(i, day, true) : m.call(i, day, true));
            }
        }
        for (int i = 0; i < m.people.size(); i++) {
            all.append("\nperson ").append(i).append(": ").append(program ? x.pay(i, true) : m.pay(i, true));
            all.append(' ').append(program ? x.pay(i, false) : m.pay(i, false));
        }
        return all.append("\ncost: ").append(program ? x.cost() : m.cost()).toString();
    }
}
