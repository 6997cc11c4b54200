import java.util.Arrays;

/** A film made day by day: its script, its people and places, its board of days, its shooting and its money. */
public final class Stripboard {
    /** None. */
    public static final int NONE = -1;
    /** Deals. */
    public static final int BY_DAY = 0, BY_WEEK = 1, FOR_RUN = 2;
    /** How scenes are. */
    public static final int OPEN = 0, PLACED = 1, SHOT = 2, OWED = 3, OMITTED = 4;

    private static final int MOST_SCENES = 20;
    private static final int MOST_PEOPLE = 8;
    private static final int MOST_PLACES = 6;
    private static final int DAYS = 30;
    private static final int ROW = 8;
    private static final int THINGS = 4;
    private static final int LETTERS = 26;
    private static final int MOST_EIGHTHS = 32;

    private static final int NOT_ALLOWED = 1;
    private static final int NO_LIGHT = 2;
    private static final int SOMEBODY_ILL = 4;
    private static final int CHILD_TOO_LONG = 8;
    private static final int OUT_OF_ORDER = 16;
    private static final int DAY_TOO_LONG = 32;

    private static final int NO_WORK = -10000;

    private final Script script;
    private final Crew crew;
    private final Places places;
    private final Board board;
    private final Filler filler;
    private final Payroll payroll;

    /** No scenes, people and places; the day 0. */
    public Stripboard() {
        script = new Script();
        crew = new Crew();
        places = new Places();
        board = new Board(script, crew, places);
        filler = new Filler(script, board);
        payroll = new Payroll(script, crew, places, board);
    }

    // ---- scenes, things

    /** Makes a scene behind another one, or ahead of all; returns its number. */
    public int scene(int behind, int place, boolean day, boolean inside, int eighths)
            throws IndexOutOfBoundsException, IllegalArgumentException, IllegalStateException {
        if (behind != NONE) checkScene(behind);
        checkPlace(place);
        checkRange(eighths, 1, MOST_EIGHTHS);
        if (!script.hasRoomBehind(behind)) throw new IllegalStateException("no scene or letter is left");
        return script.add(behind, place, day, inside, eighths);
    }

    /** Locks the script; returns how many scenes there are. */
    public int lock() throws IllegalStateException {
        if (script.locked) throw new IllegalStateException("the script is locked");
        script.keepLabels();
        return script.made;
    }

    /** Omits a scene; returns how many are not omitted then. */
    public int omit(int scene) throws IndexOutOfBoundsException, IllegalStateException {
        checkScene(scene);
        Scene omitted = script.scenes[scene];
        if (omitted.omitted || omitted.shot) throw new IllegalStateException("the scene is omitted or shot");
        board.takeOff(scene);
        omitted.omitted = true;
        return script.made - script.countOf(OMITTED);
    }

    /** Returns the label of a scene: 100 times its number, and its letter. */
    public int label(int scene) throws IndexOutOfBoundsException {
        checkScene(scene);
        return script.labelOf(scene);
    }

    /** Tells whom a scene needs, as bits; returns how many it needs. */
    public int needs(int scene, int people) throws IndexOutOfBoundsException, IllegalArgumentException {
        checkScene(scene);
        checkRange(people, 0, (1 << crew.count) - 1);
        script.scenes[scene].people = people;
        return Integer.bitCount(people);
    }

    /** Tells a look that a scene wants or leaves; returns how many scenes clash then. */
    public int look(int scene, int thing, boolean wants, int look)
            throws IndexOutOfBoundsException, IllegalArgumentException {
        checkScene(scene);
        checkIndex(thing, THINGS);
        checkRange(look, NONE, 9);
        Scene told = script.scenes[scene];
        int[] looks = wants ? told.wants : told.leaves;
        looks[thing] = look;
        return script.findClashes();
    }

    /** Returns whether a scene clashes. */
    public boolean clashes(int scene) throws IndexOutOfBoundsException {
        checkScene(scene);
        script.findClashes();
        return script.scenes[scene].clashing;
    }

    /** Binds a scene behind another one; returns behind how many it is bound then. */
    public int bind(int scene, int other) throws IndexOutOfBoundsException, IllegalStateException {
        checkScene(scene);
        checkScene(other);
        if (script.leadsTo(other, scene)) throw new IllegalStateException("it would go round");
        Scene bound = script.scenes[scene];
        bound.behind |= 1 << other;
        return Integer.bitCount(bound.behind);
    }

    // ---- people, places

    /** Tells a person; returns their number. */
    public int person(int deal, int rate, int prepare, boolean child)
            throws IllegalArgumentException, IllegalStateException {
        checkRange(deal, BY_DAY, FOR_RUN);
        checkRange(rate, 1, 1000);
        checkRange(prepare, 0, 180);
        if (crew.count >= MOST_PEOPLE) throw new IllegalStateException("there are 8 people");
        return crew.add(deal, rate, prepare, child);
    }

    /** Tells whether a person is ill on a day; returns on how many days they are. */
    public int ill(int person, int day, boolean ill) throws IndexOutOfBoundsException {
        checkPerson(person);
        checkDay(day);
        return board.tellIll(person, day, ill);
    }

    /** Tells a place; returns its number. */
    public int place(int cost) throws IllegalArgumentException, IllegalStateException {
        checkRange(cost, 0, 1000);
        if (places.count >= MOST_PLACES) throw new IllegalStateException("there are 6 places");
        return places.add(cost);
    }

    /** Tells whether a place is allowed on a day; returns on how many days it is. */
    public int permit(int place, int day, boolean allowed) throws IndexOutOfBoundsException {
        checkPlace(place);
        checkDay(day);
        return board.tellAllowed(place, day, allowed);
    }

    /** Tells how long it takes to move between two places; returns how long it took. */
    public int move(int place, int other, int minutes) throws IndexOutOfBoundsException, IllegalArgumentException {
        checkPlace(place);
        checkPlace(other);
        checkRange(minutes, 0, 300);
        if (place == other) throw new IllegalArgumentException("both places are one");
        return places.tellMove(place, other, minutes);
    }

    /** Tells the light of a day, and its start. */
    public void light(int day, int start, int from, int to)
            throws IndexOutOfBoundsException, IllegalArgumentException {
        checkDay(day);
        checkRange(start, 0, 1200);
        checkRange(from, 0, 1440);
        checkRange(to, from, 1440);
        Day told = board.days[day];
        told.start = start;
        told.lightFrom = from;
        told.lightTo = to;
    }

    // ---- the board

    /** Puts a scene on a day, faults or not; returns its faults then. */
    public int put(int scene, int day, int at) throws IndexOutOfBoundsException, IllegalStateException {
        checkScene(scene);
        checkDay(day);
        Day target = board.days[day];
        checkIndex(at, target.count + 1);
        if (!script.scenes[scene].isLoose()) throw new IllegalStateException("the scene is on the board, or omitted");
        if (day < board.now || target.isFull()) throw new IllegalStateException("the day is over or full");
        board.putOn(scene, day, at);
        return board.faultsOf(scene);
    }

    /** Takes a scene off the board; returns the day on which it was. */
    public int take(int scene) throws IndexOutOfBoundsException, IllegalStateException {
        checkScene(scene);
        Scene taken = script.scenes[scene];
        if (taken.status() != PLACED) throw new IllegalStateException("the scene is not on the board, or shot");
        int day = taken.day;
        board.takeOff(scene);
        return day;
    }

    /** Fills the board; returns how many scenes were put. */
    public int fill() {
        int tried = 0;
        int count = 0;
        // Each round tries one scene that was not tried.
        for (int round = 0; round < script.made; round++) {
            int scene = script.firstToTry(tried);
            if (scene == NONE) return count;
            tried |= 1 << scene;
            if (filler.findDay(scene, NONE)) count++;
        }
        return count;
    }

    /** Mends a day; returns how many scenes were put on other days. */
    public int mend(int day) throws IndexOutOfBoundsException, IllegalStateException {
        checkDay(day);
        if (day < board.now) throw new IllegalStateException("the day is over");
        int many = filler.takeIllOnes(day);
        int count = 0;
        for (int i = 0; i < many; i++) {
            if (filler.findDay(filler.taken[i], day)) count++;
        }
        return count;
    }

    /** Returns a scene of a day, or NONE. */
    public int strip(int day, int at) throws IndexOutOfBoundsException {
        checkDay(day);
        if (at < 0) throw new IndexOutOfBoundsException("there is no such place in a row");
        Day asked = board.days[day];
        return at < asked.count ? asked.row[at] : NONE;
    }

    /** Returns a number of a scene: how it is, its day, when it begins, when it ends, its faults. */
    public int ofScene(int scene, int what) throws IndexOutOfBoundsException, IllegalArgumentException {
        checkScene(scene);
        checkRange(what, 0, 4);
        Scene asked = script.scenes[scene];
        if (what == 0) return asked.status();
        if (asked.day == NONE) return NONE;
        if (what == 1) return asked.day;
        if (what == 4) return board.faultsOf(scene);
        return board.timeOf(scene, what == 3);
    }

    /** Returns the call or the wrap of a person on a day; -10000 if they do not work. */
    public int call(int person, int day, boolean wrap) throws IndexOutOfBoundsException {
        checkPerson(person);
        checkDay(day);
        Clock clock = board.clockOf(day);
        if (!clock.hasWorkFor(person)) return NO_WORK;
        return wrap ? clock.wraps[person] : clock.calls[person];
    }

    // ---- shooting, money

    /** Shoots a scene of the day of now; returns how long an eighth lasts then. */
    public int shoot(int scene, int minutes)
            throws IndexOutOfBoundsException, IllegalArgumentException, IllegalStateException {
        checkScene(scene);
        checkRange(minutes, 1, 1000);
        Scene told = script.scenes[scene];
        if (told.day != board.now || told.shot) throw new IllegalStateException("not on the day of now, or shot");
        told.keepTake(minutes);
        return board.pace.learn(minutes, told.eighths);
    }

    /** Loses the dailies of a scene; returns how many scenes are OWED. */
    public int lose(int scene) throws IndexOutOfBoundsException, IllegalStateException {
        checkScene(scene);
        Scene lost = script.scenes[scene];
        if (!lost.shot) throw new IllegalStateException("the scene is not shot");
        lost.shot = false;
        lost.owed = true;
        board.takeOff(scene);
        return script.countOf(OWED);
    }

    /** Ends the day of now; returns how many scenes are OWED. */
    public int next() throws IllegalStateException {
        if (board.now >= DAYS - 1) throw new IllegalStateException("it is the last day");
        board.endDay();
        return script.countOf(OWED);
    }

    /** Returns what a person has by the board as it is, or just what they have besides the deal. */
    public int pay(int person, boolean more) throws IndexOutOfBoundsException {
        checkPerson(person);
        return payroll.payOf(person, more);
    }

    /** Returns what all costs, people and places, by the board as it is. */
    public int cost() {
        return payroll.costOfAll();
    }

    // ---- what the calls refuse

    private void checkScene(int scene) {
        checkIndex(scene, script.made);
    }

    private void checkPerson(int person) {
        checkIndex(person, crew.count);
    }

    private void checkPlace(int place) {
        checkIndex(place, places.count);
    }

    private static void checkDay(int day) {
        checkIndex(day, DAYS);
    }

    private static void checkIndex(int index, int count) {
        if (index < 0 || index >= count) throw new IndexOutOfBoundsException("there is no such one");
    }

    private static void checkRange(int number, int lowest, int highest) {
        if (number < lowest || number > highest) throw new IllegalArgumentException("a number is out of range");
    }

    private static boolean hasBit(int bits, int bit) {
        return (bits >> bit & 1) != 0;
    }

    private static int withBit(int bits, int bit, boolean set) {
        return set ? bits | 1 << bit : bits & ~(1 << bit);
    }

    /** A scene, and how it stands. */
    private static final class Scene {
        int place;
        boolean byDay;
        boolean inside;
        int eighths;
        int people;
        int behind;
        int number;
        int letter;
        final int[] wants = new int[THINGS];
        final int[] leaves = new int[THINGS];
        boolean clashing;
        boolean omitted;
        boolean shot;
        boolean owed;
        int lasted;
        int day = NONE;

        Scene() {
            Arrays.fill(wants, NONE);
            Arrays.fill(leaves, NONE);
        }

        int status() {
            if (omitted) return OMITTED;
            if (shot) return SHOT;
            if (day != NONE) return PLACED;
            return owed ? OWED : OPEN;
        }

        /** Whether it can be put on the board. */
        boolean isLoose() {
            return !omitted && !shot && day == NONE;
        }

        /** Whether nothing that is bound behind it has to wait for it to be put on the board. */
        boolean isSettled() {
            return omitted || shot || day != NONE;
        }

        int lasts(int eighth) {
            return shot ? lasted : eighths * eighth;
        }

        boolean wantsLight() {
            return byDay && !inside;
        }

        void keepTake(int minutes) {
            shot = true;
            owed = false;
            lasted = minutes;
        }
    }

    /** The scenes in the order of the story, with labels, looks and what binds them. */
    private static final class Script {
        // Made whole at first: later calls make nothing.
        final Scene[] scenes = new Scene[MOST_SCENES];
        final int[] order = new int[MOST_SCENES];
        final int[] looks = new int[THINGS];
        int made;
        boolean locked;

        Script() {
            for (int i = 0; i < MOST_SCENES; i++) scenes[i] = new Scene();
        }

        boolean hasRoomBehind(int behind) {
            if (made >= MOST_SCENES) return false;
            return !locked || lowestLetter(numberAt(spotBehind(behind))) != NONE;
        }

        int add(int behind, int place, boolean day, boolean inside, int eighths) {
            int spot = spotBehind(behind);
            Scene scene = scenes[made];
            scene.place = place;
            scene.byDay = day;
            scene.inside = inside;
            scene.eighths = eighths;
            if (locked) {
                scene.number = numberAt(spot);
                scene.letter = lowestLetter(scene.number);
            }
            for (int i = made; i > spot; i--) order[i] = order[i - 1];
            order[spot] = made;
            made++;
            return made - 1;
        }

        private int spotBehind(int behind) {
            return behind == NONE ? 0 : spotOf(behind) + 1;
        }

        private int spotOf(int scene) {
            for (int spot = 0; spot < made; spot++) {
                if (order[spot] == scene) return spot;
            }
            return 0;
        }

        /** The number of the last scene ahead of a spot that has no letter. */
        private int numberAt(int spot) {
            for (int i = spot - 1; i >= 0; i--) {
                Scene ahead = scenes[order[i]];
                if (ahead.letter == 0) return ahead.number;
            }
            return 0;
        }

        private int lowestLetter(int number) {
            int taken = 0;
            for (int i = 0; i < made; i++) {
                if (scenes[i].number == number) taken |= 1 << scenes[i].letter;
            }
            for (int letter = 1; letter <= LETTERS; letter++) {
                if (!hasBit(taken, letter)) return letter;
            }
            return NONE;
        }

        void keepLabels() {
            for (int i = 0; i < made; i++) scenes[order[i]].number = i + 1;
            locked = true;
        }

        int labelOf(int scene) {
            if (!locked) return 100 * (spotOf(scene) + 1);
            return 100 * scenes[scene].number + scenes[scene].letter;
        }

        int countOf(int status) {
            int count = 0;
            for (int i = 0; i < made; i++) {
                if (scenes[i].status() == status) count++;
            }
            return count;
        }

        /** Goes through the story and marks the scenes that clash; returns how many. */
        int findClashes() {
            Arrays.fill(looks, 0);
            int count = 0;
            for (int i = 0; i < made; i++) {
                Scene scene = scenes[order[i]];
                scene.clashing = !scene.omitted && wantsOther(scene);
                if (scene.clashing) count++;
                if (!scene.omitted) leaveLooks(scene);
            }
            return count;
        }

        private boolean wantsOther(Scene scene) {
            for (int thing = 0; thing < THINGS; thing++) {
                if (scene.wants[thing] != NONE && scene.wants[thing] != looks[thing]) return true;
            }
            return false;
        }

        private void leaveLooks(Scene scene) {
            for (int thing = 0; thing < THINGS; thing++) {
                if (scene.leaves[thing] != NONE) looks[thing] = scene.leaves[thing];
            }
        }

        /** Whether one gets from a scene to a goal by going to those that it is bound behind; from itself too. */
        boolean leadsTo(int scene, int goal) {
            int reached = 1 << scene;
            for (int round = 0; round < made; round++) {
                for (int i = 0; i < made; i++) {
                    if (hasBit(reached, i)) reached |= scenes[i].behind;
                }
            }
            return hasBit(reached, goal);
        }

        /** The first scene that the board can be filled with, but for those that were tried, as bits. */
        int firstToTry(int tried) {
            for (int i = 0; i < made; i++) {
                Scene scene = scenes[order[i]];
                if (!hasBit(tried, order[i]) && scene.isLoose() && isFree(scene)) return order[i];
            }
            return NONE;
        }

        /** Whether all that a scene is bound behind are on the board, shot or omitted. */
        private boolean isFree(Scene scene) {
            for (int i = 0; i < made; i++) {
                if (hasBit(scene.behind, i) && !scenes[i].isSettled()) return false;
            }
            return true;
        }
    }

    /** The people by their deals. */
    private static final class Crew {
        final int[] deals = new int[MOST_PEOPLE];
        final int[] rates = new int[MOST_PEOPLE];
        final int[] prepares = new int[MOST_PEOPLE];
        int children;
        int count;

        int add(int deal, int rate, int prepare, boolean child) {
            deals[count] = deal;
            rates[count] = rate;
            prepares[count] = prepare;
            children = withBit(children, count, child);
            count++;
            return count - 1;
        }
    }

    /** The places, and how long the moves between them take. */
    private static final class Places {
        final int[] costs = new int[MOST_PLACES];
        final int[] moves = new int[MOST_PLACES * MOST_PLACES];
        int count;

        Places() {
            Arrays.fill(moves, 60);
        }

        int add(int cost) {
            costs[count] = cost;
            count++;
            return count - 1;
        }

        int moveBetween(int place, int other) {
            return place == other ? 0 : moves[place * MOST_PLACES + other];
        }

        int tellMove(int place, int other, int minutes) {
            int before = moveBetween(place, other);
            moves[place * MOST_PLACES + other] = minutes;
            moves[other * MOST_PLACES + place] = minutes;
            return before;
        }
    }

    /** A day with its row of scenes, its light, and who is ill and what is closed on it. */
    private static final class Day {
        int start = 480;
        int lightFrom = 360;
        int lightTo = 1080;
        int ill;
        int closed;
        final int[] row = new int[ROW];
        int count;

        boolean isFull() {
            return count >= ROW;
        }

        void insert(int scene, int at) {
            for (int i = count; i > at; i--) row[i] = row[i - 1];
            row[at] = scene;
            count++;
        }

        void remove(int scene) {
            int kept = 0;
            for (int i = 0; i < count; i++) {
                if (row[i] != scene) {
                    row[kept] = row[i];
                    kept++;
                }
            }
            count = kept;
        }

        int spotOf(int scene) {
            for (int spot = 0; spot < count; spot++) {
                if (row[spot] == scene) return spot;
            }
            return 0;
        }
    }

    /** How long things last, by all that was shot. */
    private static final class Pace {
        int minutes;
        int eighths;

        int learn(int moreMinutes, int moreEighths) {
            minutes += moreMinutes;
            eighths += moreEighths;
            return ofEighth();
        }

        int ofEighth() {
            return eighths == 0 ? 15 : (minutes + eighths - 1) / eighths;
        }
    }

    /** The times of one day, to the minute: of its row, and of its people. */
    private static final class Clock {
        final Script script;
        final Crew crew;
        final Places places;
        final Pace pace;
        final int[] begins = new int[ROW];
        final int[] ends = new int[ROW];
        final int[] calls = new int[MOST_PEOPLE];
        final int[] wraps = new int[MOST_PEOPLE];
        int working;
        int tiredChildren;
        boolean tooLong;

        Clock(Script script, Crew crew, Places places, Pace pace) {
            this.script = script;
            this.crew = crew;
            this.places = places;
            this.pace = pace;
        }

        void read(Day day) {
            readRow(day);
            readPeople(day);
            readChildren();
        }

        boolean hasWorkFor(int person) {
            return hasBit(working, person);
        }

        private void readRow(Day day) {
            int eighth = pace.ofEighth();
            int minute = day.start;
            int lunchBy = day.start + 360;
            boolean lunchDone = false;
            for (int at = 0; at < day.count; at++) {
                Scene scene = script.scenes[day.row[at]];
                int lasts = scene.lasts(eighth);
                if (at > 0) minute += places.moveBetween(script.scenes[day.row[at - 1]].place, scene.place);
                if (!lunchDone && minute + lasts > lunchBy) {
                    minute += 30;
                    lunchDone = true;
                }
                begins[at] = minute;
                minute += lasts;
                ends[at] = minute;
            }
            tooLong = minute > day.start + 720;
        }

        private void readPeople(Day day) {
            working = 0;
            for (int at = 0; at < day.count; at++) {
                int needed = script.scenes[day.row[at]].people;
                for (int person = 0; person < crew.count; person++) {
                    if (!hasBit(needed, person)) continue;
                    if (!hasBit(working, person)) calls[person] = begins[at] - crew.prepares[person];
                    wraps[person] = ends[at];
                }
                working |= needed;
            }
        }

        private void readChildren() {
            tiredChildren = 0;
            int children = working & crew.children;
            for (int person = 0; person < crew.count; person++) {
                if (hasBit(children, person) && wraps[person] - calls[person] > 480) tiredChildren |= 1 << person;
            }
        }
    }

    /** The days with their rows, and what is wrong on them. */
    private static final class Board {
        final Script script;
        final Pace pace = new Pace();
        final Day[] days = new Day[DAYS];
        final Clock clock;
        int now;

        Board(Script script, Crew crew, Places places) {
            this.script = script;
            clock = new Clock(script, crew, places, pace);
            for (int i = 0; i < DAYS; i++) days[i] = new Day();
        }

        int tellIll(int person, int day, boolean ill) {
            days[day].ill = withBit(days[day].ill, person, ill);
            int count = 0;
            for (int i = 0; i < DAYS; i++) {
                if (hasBit(days[i].ill, person)) count++;
            }
            return count;
        }

        int tellAllowed(int place, int day, boolean allowed) {
            days[day].closed = withBit(days[day].closed, place, !allowed);
            int count = 0;
            for (int i = 0; i < DAYS; i++) {
                if (!hasBit(days[i].closed, place)) count++;
            }
            return count;
        }

        void putOn(int scene, int day, int at) {
            days[day].insert(scene, at);
            script.scenes[scene].day = day;
        }

        void takeOff(int scene) {
            Scene taken = script.scenes[scene];
            if (taken.day == NONE) return;
            days[taken.day].remove(scene);
            taken.day = NONE;
        }

        void endDay() {
            Day today = days[now];
            // From the end, since taking one off moves those behind it.
            for (int at = today.count - 1; at >= 0; at--) {
                Scene scene = script.scenes[today.row[at]];
                if (!scene.shot) {
                    scene.owed = true;
                    takeOff(today.row[at]);
                }
            }
            now++;
        }

        Clock clockOf(int day) {
            clock.read(days[day]);
            return clock;
        }

        /** When a scene that is on the board begins or ends. */
        int timeOf(int scene, boolean end) {
            Day on = days[script.scenes[scene].day];
            int at = on.spotOf(scene);
            clock.read(on);
            return end ? clock.ends[at] : clock.begins[at];
        }

        /** The faults of a scene that is on the board. */
        int faultsOf(int scene) {
            Day on = days[script.scenes[scene].day];
            clock.read(on);
            return faultsAt(on, on.spotOf(scene));
        }

        /** The scenes of a day that have no fault, as bits of their places in the row. */
        int faultless(int day) {
            Day on = days[day];
            clock.read(on);
            int spots = 0;
            for (int at = 0; at < on.count; at++) {
                if (faultsAt(on, at) == 0) spots |= 1 << at;
            }
            return spots;
        }

        /** The faults at a place of a row; the clock has been read for that day. */
        private int faultsAt(Day on, int at) {
            Scene scene = script.scenes[on.row[at]];
            int faults = 0;
            if (hasBit(on.closed, scene.place)) faults += NOT_ALLOWED;
            if (scene.wantsLight() && isDark(on, at)) faults += NO_LIGHT;
            if ((scene.people & on.ill) != 0) faults += SOMEBODY_ILL;
            if ((scene.people & clock.tiredChildren) != 0) faults += CHILD_TOO_LONG;
            if (isTooEarly(scene, on.row, at)) faults += OUT_OF_ORDER;
            if (clock.tooLong) faults += DAY_TOO_LONG;
            return faults;
        }

        private boolean isDark(Day day, int at) {
            return clock.begins[at] < day.lightFrom || clock.ends[at] > day.lightTo;
        }

        private boolean isTooEarly(Scene scene, int[] row, int at) {
            int ahead = 0;
            for (int i = 0; i < at; i++) ahead |= 1 << row[i];
            for (int i = 0; i < script.made; i++) {
                if (hasBit(scene.behind & ~ahead, i) && !isDoneBefore(script.scenes[i], scene.day)) return true;
            }
            return false;
        }

        private static boolean isDoneBefore(Scene other, int day) {
            return other.omitted || other.shot || other.day != NONE && other.day < day;
        }
    }

    /** Finds days for scenes. */
    private static final class Filler {
        final Script script;
        final Board board;
        final int[] taken = new int[ROW];

        Filler(Script script, Board board) {
            this.script = script;
            this.board = board;
        }

        /** Takes those that are not shot and need somebody who is ill off a day; returns how many. */
        int takeIllOnes(int day) {
            Day ill = board.days[day];
            int many = 0;
            for (int at = 0; at < ill.count; at++) {
                Scene scene = script.scenes[ill.row[at]];
                if (!scene.shot && (scene.people & ill.ill) != 0) {
                    taken[many] = ill.row[at];
                    many++;
                }
            }
            for (int i = 0; i < many; i++) board.takeOff(taken[i]);
            return many;
        }

        /** Puts a scene on the first day that can have it, but for one day; returns whether there is one. */
        boolean findDay(int scene, int butFor) {
            for (int day = board.now; day < DAYS; day++) {
                if (day != butFor && fits(scene, day)) return true;
            }
            return false;
        }

        /** Puts a scene at the end of a day, and leaves it there if nothing that had no fault has one by that. */
        private boolean fits(int scene, int day) {
            Day on = board.days[day];
            if (on.isFull()) return false;
            int spot = on.count;
            int clean = board.faultless(day) | 1 << spot;
            board.putOn(scene, day, spot);
            if ((clean & ~board.faultless(day)) == 0) return true;
            board.takeOff(scene);
            return false;
        }
    }

    /** What people have and what places cost. */
    private static final class Payroll {
        final Script script;
        final Crew crew;
        final Places places;
        final Board board;

        Payroll(Script script, Crew crew, Places places, Board board) {
            this.script = script;
            this.crew = crew;
            this.places = places;
            this.board = board;
        }

        int payOf(int person, boolean more) {
            int rate = crew.rates[person];
            int money = 0;
            int last = NONE;
            int lastWrap = 0;
            int straight = 0;
            for (int day = 0; day < DAYS; day++) {
                Clock clock = board.clockOf(day);
                if (!clock.hasWorkFor(person)) {
                    straight = 0;
                    continue;
                }
                int begin = clock.calls[person];
                int end = clock.wraps[person];
                if (!more) money += rate * dueTimes(crew.deals[person], day, last);
                money += (begunHours(end - begin - 600) + begunHours(end - 1320)) * (rate / 10);
                if (straight > 0 && begin + 1440 - lastWrap < 660) money += rate / 4;
                if (straight >= 5) money += rate / 2;
                straight++;
                last = day;
                lastWrap = end;
            }
            return money;
        }

        /** How many times a rate is due by a day of work, with the last such day ahead of it, or NONE. */
        private static int dueTimes(int deal, int day, int last) {
            if (last == NONE || deal == BY_DAY) return 1;
            if (deal == BY_WEEK) return last / 7 == day / 7 ? 0 : 1;
            return day - last > 10 ? 1 : day - last;
        }

        private static int begunHours(int minutes) {
            return minutes <= 0 ? 0 : (minutes + 59) / 60;
        }

        int costOfAll() {
            int money = 0;
            for (int person = 0; person < crew.count; person++) money += payOf(person, false);
            for (int day = 0; day < DAYS; day++) money += costOfPlaces(board.days[day]);
            return money;
        }

        private int costOfPlaces(Day day) {
            int seen = 0;
            int money = 0;
            for (int at = 0; at < day.count; at++) {
                int place = script.scenes[day.row[at]].place;
                if (!hasBit(seen, place)) money += places.costs[place];
                seen |= 1 << place;
            }
            return money;
        }
    }
}
