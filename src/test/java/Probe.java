/** What calls can tell of an object, in parts that stay within the calls for which an object is promised to be used. */
final class Probe {
    static final int PARTS = 11;

    private interface Asked {
        long run();
    }

    private final Stripboard x;
    private final StringBuilder told = new StringBuilder();

    private Probe(Stripboard x) {
        this.x = x;
    }

    /** All answers of one part; most parts change the object. */
    static String part(Stripboard x, int part) {
        Probe probe = new Probe(x);
        probe.run(part);
        return probe.told.toString();
    }

    private void run(int part) {
        switch (part) {
            case 0 -> numbers();
            case 1 -> strips();
            case 2 -> calls(false);
            case 3 -> calls(true);
            case 4 -> illness();
            case 5 -> permitsAndMoves();
            case 6 -> binds();
            case 7 -> looksAndNeeds();
            case 8 -> newOnes();
            case 9 -> daysAlone();
            default -> goOn();
        }
    }

    private void tell(Asked asked) {
        told.append(' ').append(answer(asked));
    }

    private static String answer(Asked asked) {
        try {
            return Long.toString(asked.run());
        } catch (IndexOutOfBoundsException | IllegalArgumentException | IllegalStateException e) {
            return e.getClass().getSimpleName();
        }
    }

    private void numbers() {
        for (int i = 0; i < 20; i++) {
            int scene = i;
            tell(() -> x.label(scene));
            tell(() -> x.clashes(scene) ? 1 : 0);
            for (int what = 0; what < 5; what++) {
                int asked = what;
                tell(() -> x.ofScene(scene, asked));
            }
        }
        for (int i = 0; i < 8; i++) {
            int person = i;
            tell(() -> x.pay(person, true));
            tell(() -> x.pay(person, false));
        }
        tell(() -> x.cost());
    }

    private void strips() {
        for (int day = 0; day < 30; day++) {
            for (int at = 0; at < 9; at++) told.append(' ').append(x.strip(day, at));
        }
    }

    private void calls(boolean wrap) {
        for (int i = 0; i < 8; i++) {
            int person = i;
            for (int day = 0; day < 30; day++) {
                int asked = day;
                tell(() -> x.call(person, asked, wrap));
            }
        }
    }

    private void illness() {
        for (int i = 0; i < 8; i++) {
            int person = i;
            for (int day = 0; day < 30; day++) {
                int asked = day;
                tell(() -> x.ill(person, asked, true));
            }
        }
    }

    private void permitsAndMoves() {
        for (int i = 0; i < 6; i++) {
            int place = i;
            for (int day = 0; day < 30; day++) {
                int asked = day;
                tell(() -> x.permit(place, asked, false));
            }
            for (int j = 0; j < 6; j++) {
                int other = j;
                tell(() -> x.move(place, other, 7));
            }
        }
    }

    private void binds() {
        for (int i = 0; i < 20; i++) {
            int scene = i;
            for (int j = 0; j < 20; j++) {
                int other = j;
                tell(() -> x.bind(scene, other));
            }
        }
    }

    /** Each look is taken back, which shows what was told; everybody is needed last. */
    private void looksAndNeeds() {
        for (int i = 0; i < 20; i++) {
            int scene = i;
            for (int thing = 0; thing < 4; thing++) {
                int asked = thing;
                tell(() -> x.look(scene, asked, true, Stripboard.NONE));
                tell(() -> x.look(scene, asked, false, Stripboard.NONE));
            }
            tell(() -> x.needs(scene, 7));
        }
        for (int day = 0; day < 30; day++) {
            int asked = day;
            tell(() -> x.call(0, asked, false));
        }
    }

    /** How many there are, and whether the script is locked. */
    private void newOnes() {
        tell(() -> x.person(Stripboard.FOR_RUN, 50, 20, true));
        tell(() -> x.place(3));
        for (int i = 0; i < 7; i++) {
            int behind = i - 1;
            tell(() -> x.scene(behind, 0, false, true, 2));
        }
        for (int i = 0; i < 20; i++) {
            int scene = i;
            tell(() -> x.label(scene));
        }
        tell(() -> x.lock());
        tell(() -> x.scene(0, 0, false, true, 2));
        for (int i = 0; i < 20; i++) {
            int scene = i;
            tell(() -> x.label(scene));
        }
        for (int i = 0; i < 9; i++) tell(() -> x.person(Stripboard.BY_DAY, 50, 20, true));
        for (int i = 0; i < 7; i++) tell(() -> x.place(3));
    }

    /** Starts, light, permits and illness, by one scene that goes over all days alone. */
    private void daysAlone() {
        for (int i = 0; i < 20; i++) {
            int scene = i;
            tell(() -> x.take(scene));
        }
        int alone = looseOne();
        for (int day = 0; day < 30; day++) {
            int asked = day;
            tell(() -> x.put(alone, asked, 0));
            tell(() -> x.ofScene(alone, 2));
            tell(() -> x.ofScene(alone, 3));
            tell(() -> x.take(alone));
        }
    }

    private int looseOne() {
        for (int i = 0; i < 20; i++) {
            int scene = i;
            String how = answer(() -> x.ofScene(scene, 0));
            if (how.equals("0") || how.equals("3")) return i;
        }
        return 0;
    }

    /** What is next: filled, mended, shot, lost, and ended days. */
    private void goOn() {
        tell(() -> x.fill());
        for (int day = 0; day < 8; day++) {
            int asked = day;
            tell(() -> x.mend(asked));
        }
        for (int i = 0; i < 20; i++) {
            int scene = i;
            tell(() -> x.ofScene(scene, 1));
            tell(() -> x.ofScene(scene, 2));
            tell(() -> x.shoot(scene, 40 + scene));
        }
        for (int i = 0; i < 20; i += 2) {
            int scene = i;
            tell(() -> x.lose(scene));
        }
        for (int day = 0; day < 4; day++) tell(() -> x.next());
        tell(() -> x.fill());
        numbers();
        for (int day = 0; day < 30; day++) tell(() -> x.next());
        for (int i = 0; i < 20; i++) {
            int scene = i;
            tell(() -> x.omit(scene));
        }
    }
}
