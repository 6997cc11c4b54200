import java.util.ArrayList;
import java.util.HashSet;
import java.util.List;
import java.util.Set;
import java.util.TreeSet;

/** The document once more, in other words and without care for room: ModelTest holds Stripboard against it. */
final class Model {
    static final class Sc {
        int id;
        int place;
        boolean day;
        boolean inside;
        int eighths;
        Set<Integer> people = new TreeSet<>();
        Set<Integer> behind = new TreeSet<>();
        Integer[] wants = new Integer[4];
        Integer[] leaves = new Integer[4];
        boolean omitted;
        boolean owed;
        Integer lasted;
        int number;
        int letter;
    }

    static final class Pe {
        int deal;
        int rate;
        int prepare;
        boolean child;
        Set<Integer> ill = new HashSet<>();
    }

    final List<Sc> scenes = new ArrayList<>();
    final List<Sc> story = new ArrayList<>();
    final List<Pe> people = new ArrayList<>();
    final List<Integer> places = new ArrayList<>();
    final Set<String> forbidden = new HashSet<>();
    final int[][] moves = new int[6][6];
    final List<List<Sc>> board = new ArrayList<>();
    final int[][] light = new int[30][];
    final List<int[]> shootings = new ArrayList<>();
    boolean locked;
    int now;

    Model() {
        for (int[] row : moves) java.util.Arrays.fill(row, 60);
        for (int i = 0; i < 30; i++) {
            board.add(new ArrayList<>());
            light[i] = new int[] {480, 360, 1080};
        }
    }

    static void index(boolean ok) {
        if (!ok) throw new IndexOutOfBoundsException();
    }

    static void argument(boolean ok) {
        if (!ok) throw new IllegalArgumentException();
    }

    static void state(boolean ok) {
        if (!ok) throw new IllegalStateException();
    }

    static boolean in(int x, int lo, int hi) {
        return lo <= x && x <= hi;
    }

    Sc sc(int i) {
        index(in(i, 0, scenes.size() - 1));
        return scenes.get(i);
    }

    Pe pe(int i) {
        index(in(i, 0, people.size() - 1));
        return people.get(i);
    }

    int dayOf(Sc s) {
        for (int d = 0; d < 30; d++) {
            if (board.get(d).contains(s)) return d;
        }
        return -1;
    }

    int scene(int behind, int place, boolean day, boolean inside, int eighths) {
        index(in(behind, -1, scenes.size() - 1) && in(place, 0, places.size() - 1));
        argument(in(eighths, 1, 32));
        state(scenes.size() < 20);
        Sc s = new Sc();
        s.id = scenes.size();
        s.place = place;
        s.day = day;
        s.inside = inside;
        s.eighths = eighths;
        int spot = behind < 0 ? 0 : story.indexOf(scenes.get(behind)) + 1;
        if (locked) {
            for (Sc ahead : story.subList(0, spot)) {
                if (ahead.letter == 0) s.number = ahead.number;
            }
            s.letter = 1;
            while (hasLabel(s.number, s.letter)) s.letter++;
        }
        scenes.add(s);
        story.add(spot, s);
        return s.id;
    }

    boolean hasLabel(int number, int letter) {
        return scenes.stream().anyMatch(o -> o.number == number && o.letter == letter);
    }

    int lock() {
        state(!locked);
        locked = true;
        for (Sc s : scenes) s.number = story.indexOf(s) + 1;
        return scenes.size();
    }

    int omit(int i) {
        Sc s = sc(i);
        state(!s.omitted && s.lasted == null);
        s.omitted = true;
        for (List<Sc> row : board) row.remove(s);
        return (int) scenes.stream().filter(o -> !o.omitted).count();
    }

    int label(int i) {
        Sc s = sc(i);
        return locked ? s.number * 100 + s.letter : (story.indexOf(s) + 1) * 100;
    }

    int needs(int i, int bits) {
        Sc s = sc(i);
        argument(bits >= 0 && bits < Math.pow(2, people.size()));
        s.people.clear();
        for (int p = 0; p < people.size(); p++) {
            if ((bits & (int) Math.pow(2, p)) != 0) s.people.add(p);
        }
        return s.people.size();
    }

    int look(int i, int thing, boolean wants, int look) {
        Sc s = sc(i);
        index(in(thing, 0, 3));
        argument(in(look, -1, 9));
        (wants ? s.wants : s.leaves)[thing] = look == -1 ? null : Integer.valueOf(look);
        return (int) scenes.stream().filter(o -> clashes(o.id)).count();
    }

    boolean clashes(int i) {
        Sc s = sc(i);
        if (s.omitted) return false;
        for (int thing = 0; thing < 4; thing++) {
            int is = 0;
            for (Sc ahead : story.subList(0, story.indexOf(s))) {
                if (!ahead.omitted && ahead.leaves[thing] != null) is = ahead.leaves[thing];
            }
            if (s.wants[thing] != null && s.wants[thing] != is) return true;
        }
        return false;
    }

    boolean reaches(int from, int to) {
        if (from == to) return true;
        for (int b : scenes.get(from).behind) {
            if (reaches(b, to)) return true;
        }
        return false;
    }

    int bind(int i, int other) {
        Sc s = sc(i);
        sc(other);
        state(!reaches(other, i));
        s.behind.add(other);
        return s.behind.size();
    }

    int person(int deal, int rate, int prepare, boolean child) {
        argument(in(deal, 0, 2) && in(rate, 1, 1000) && in(prepare, 0, 180));
        state(people.size() < 8);
        Pe p = new Pe();
        p.deal = deal;
        p.rate = rate;
        p.prepare = prepare;
        p.child = child;
        people.add(p);
        return people.size() - 1;
    }

    int ill(int i, int day, boolean ill) {
        Pe p = pe(i);
        index(in(day, 0, 29));
        if (ill) p.ill.add(day);
        else p.ill.remove(day);
        return p.ill.size();
    }

    int place(int cost) {
        argument(in(cost, 0, 1000));
        state(places.size() < 6);
        places.add(cost);
        return places.size() - 1;
    }

    int permit(int place, int day, boolean allowed) {
        index(in(place, 0, places.size() - 1) && in(day, 0, 29));
        if (allowed) forbidden.remove(place + "/" + day);
        else forbidden.add(place + "/" + day);
        return 30 - (int) forbidden.stream().filter(f -> f.startsWith(place + "/")).count();
    }

    int move(int place, int other, int minutes) {
        index(in(place, 0, places.size() - 1) && in(other, 0, places.size() - 1));
        argument(in(minutes, 0, 300) && place != other);
        int was = moves[Math.min(place, other)][Math.max(place, other)];
        moves[Math.min(place, other)][Math.max(place, other)] = minutes;
        return was;
    }

    int light(int day, int start, int from, int to) {
        index(in(day, 0, 29));
        argument(in(start, 0, 1200) && in(from, 0, 1440) && in(to, from, 1440));
        light[day] = new int[] {start, from, to};
        return 0;
    }

    int eighth() {
        if (shootings.isEmpty()) return 15;
        int minutes = 0;
        int eighths = 0;
        for (int[] s : shootings) {
            minutes += s[0];
            eighths += s[1];
        }
        return minutes / eighths + (minutes % eighths == 0 ? 0 : 1);
    }

    int[][] times(int day) {
        List<Sc> row = board.get(day);
        int[][] times = new int[row.size()][2];
        int start = light[day][0];
        boolean eaten = false;
        for (int k = 0; k < row.size(); k++) {
            Sc s = row.get(k);
            int begin = k == 0 ? start : times[k - 1][1];
            if (k > 0 && row.get(k - 1).place != s.place) {
                begin += moves[Math.min(row.get(k - 1).place, s.place)][Math.max(row.get(k - 1).place, s.place)];
            }
            int lasts = s.lasted == null ? s.eighths * eighth() : s.lasted;
            if (!eaten && begin + lasts - start > 360) {
                eaten = true;
                begin += 30;
            }
            times[k] = new int[] {begin, begin + lasts};
        }
        return times;
    }

    int call(int i, int day, boolean wrap) {
        Pe p = pe(i);
        index(in(day, 0, 29));
        int answer = -10000;
        int[][] times = times(day);
        for (int k = 0; k < times.length; k++) {
            if (!board.get(day).get(k).people.contains(i)) continue;
            if (wrap) answer = times[k][1];
            else if (answer == -10000) answer = times[k][0] - p.prepare;
        }
        return answer;
    }

    boolean works(int i, int day) {
        return day >= 0 && day < 30 && board.get(day).stream().anyMatch(s -> s.people.contains(i));
    }

    int faults(Sc s) {
        int d = dayOf(s);
        List<Sc> row = board.get(d);
        int at = row.indexOf(s);
        int[][] times = times(d);
        Set<Integer> faults = new TreeSet<>();
        if (forbidden.contains(s.place + "/" + d)) faults.add(1);
        if (s.day && !s.inside && (times[at][0] < light[d][1] || times[at][1] > light[d][2])) faults.add(2);
        for (int p : s.people) {
            if (people.get(p).ill.contains(d)) faults.add(4);
            if (people.get(p).child && call(p, d, true) > call(p, d, false) + 480) faults.add(8);
        }
        for (int b : s.behind) {
            Sc o = scenes.get(b);
            int od = dayOf(o);
            boolean ok = o.omitted || o.lasted != null || od >= 0 && od < d || od == d && row.indexOf(o) < at;
            if (!ok) faults.add(16);
        }
        if (times[times.length - 1][1] - light[d][0] > 720) faults.add(32);
        return faults.stream().mapToInt(f -> f).sum();
    }

    int put(int i, int day, int at) {
        Sc s = sc(i);
        index(in(day, 0, 29));
        index(in(at, 0, board.get(day).size()));
        state(dayOf(s) < 0 && s.lasted == null && !s.omitted && day >= now && board.get(day).size() < 8);
        board.get(day).add(at, s);
        return faults(s);
    }

    int take(int i) {
        Sc s = sc(i);
        int d = dayOf(s);
        state(d >= 0 && s.lasted == null);
        board.get(d).remove(s);
        return d;
    }

    /** Tries all days; holds all scenes of the board against what they had, not just those of the day. */
    boolean find(Sc s, int butFor) {
        for (int d = now; d < 30; d++) {
            if (d == butFor || board.get(d).size() >= 8) continue;
            Set<Sc> clean = new HashSet<>();
            for (Sc o : scenes) {
                if (dayOf(o) >= 0 && faults(o) == 0) clean.add(o);
            }
            board.get(d).add(s);
            clean.add(s);
            if (clean.stream().allMatch(o -> faults(o) == 0)) return true;
            board.get(d).remove(s);
        }
        return false;
    }

    boolean off(Sc s) {
        return dayOf(s) < 0 && s.lasted == null && !s.omitted;
    }

    int fill() {
        Set<Sc> tried = new HashSet<>();
        int count = 0;
        while (true) {
            Sc next = null;
            for (Sc s : story) {
                boolean free = s.behind.stream().noneMatch(b -> off(scenes.get(b)));
                if (next == null && off(s) && free && !tried.contains(s)) next = s;
            }
            if (next == null) return count;
            tried.add(next);
            if (find(next, -1)) count++;
        }
    }

    int mend(int day) {
        index(in(day, 0, 29));
        state(day >= now);
        List<Sc> ill = new ArrayList<>();
        for (Sc s : board.get(day)) {
            if (s.lasted == null && s.people.stream().anyMatch(p -> people.get(p).ill.contains(day))) ill.add(s);
        }
        board.get(day).removeAll(ill);
        int count = 0;
        for (Sc s : ill) {
            if (find(s, day)) count++;
        }
        return count;
    }

    int strip(int day, int at) {
        index(in(day, 0, 29) && at >= 0);
        return at < board.get(day).size() ? board.get(day).get(at).id : -1;
    }

    int status(Sc s) {
        if (s.omitted) return 4;
        if (s.lasted != null) return 2;
        if (dayOf(s) >= 0) return 1;
        return s.owed ? 3 : 0;
    }

    int ofScene(int i, int what) {
        Sc s = sc(i);
        argument(in(what, 0, 4));
        int d = dayOf(s);
        if (what == 0) return status(s);
        if (d < 0) return -1;
        if (what == 1) return d;
        if (what == 4) return faults(s);
        return times(d)[board.get(d).indexOf(s)][what - 2];
    }

    int owed() {
        return (int) scenes.stream().filter(s -> status(s) == 3).count();
    }

    int shoot(int i, int minutes) {
        Sc s = sc(i);
        argument(in(minutes, 1, 1000));
        state(board.get(now).contains(s) && s.lasted == null);
        s.lasted = minutes;
        s.owed = false;
        shootings.add(new int[] {minutes, s.eighths});
        return eighth();
    }

    int lose(int i) {
        Sc s = sc(i);
        state(s.lasted != null);
        s.lasted = null;
        s.owed = true;
        for (List<Sc> row : board) row.remove(s);
        return owed();
    }

    int next() {
        state(now < 29);
        for (Sc s : board.get(now)) {
            if (s.lasted == null) s.owed = true;
        }
        board.get(now).removeIf(s -> s.lasted == null);
        now++;
        return owed();
    }

    static int hours(int minutes) {
        int hours = 0;
        while (hours * 60 < minutes) hours++;
        return hours;
    }

    int besides(int i) {
        int sum = 0;
        int rate = people.get(i).rate;
        for (int d = 0; d < 30; d++) {
            if (!works(i, d)) continue;
            int call = call(i, d, false);
            int wrap = call(i, d, true);
            sum += hours(wrap - call - 600) * (rate / 10);
            sum += hours(wrap - 1320) * (rate / 10);
            if (works(i, d - 1) && call + 1440 - call(i, d - 1, true) < 660) sum += rate / 4;
            boolean five = true;
            for (int k = 1; k <= 5; k++) five &= works(i, d - k);
            if (five) sum += rate / 2;
        }
        return sum;
    }

    int deal(int i) {
        Set<Integer> paid = new TreeSet<>();
        List<Integer> days = new ArrayList<>();
        for (int d = 0; d < 30; d++) {
            if (works(i, d)) days.add(d);
        }
        if (people.get(i).deal == 0) paid.addAll(days);
        if (people.get(i).deal == 1) days.forEach(d -> paid.add(d / 7));
        if (people.get(i).deal == 2 && !days.isEmpty()) {
            for (int d = days.get(0); d <= days.get(days.size() - 1); d++) paid.add(d);
            for (int k = 1; k < days.size(); k++) {
                int a = days.get(k - 1);
                int b = days.get(k);
                if (b - a > 10) paid.removeIf(d -> d > a && d < b);
            }
        }
        return people.get(i).rate * paid.size();
    }

    int pay(int i, boolean more) {
        pe(i);
        return besides(i) + (more ? 0 : deal(i));
    }

    int cost() {
        int sum = 0;
        for (int i = 0; i < people.size(); i++) sum += pay(i, false);
        for (List<Sc> row : board) {
            for (int p = 0; p < places.size(); p++) {
                int place = p;
                if (row.stream().anyMatch(s -> s.place == place)) sum += places.get(p);
            }
        }
        return sum;
    }
}
