/** What the tests of bounds build their boards of. */
final class Film {
    static final int NONE = Stripboard.NONE;

    private Film() {
    }

    /** Places without a cost, and scenes of one eighth at the first of them, inside by day, one behind another. */
    static Stripboard of(int places, int scenes) {
        return of(places, scenes, 1);
    }

    static Stripboard of(int places, int scenes, int eighths) {
        Stripboard x = new Stripboard();
        for (int i = 0; i < places; i++) x.place(0);
        for (int i = 0; i < scenes; i++) x.scene(i - 1, 0, true, true, eighths);
        return x;
    }

    /** A person with a deal and a rate, who needs no time to prepare, and is no child. */
    static int person(Stripboard x, int deal, int rate) {
        return x.person(deal, rate, 0, false);
    }

    /** The scenes of a day, each in turn; and none behind them. */
    static void row(String what, Stripboard x, int day, int... scenes) {
        for (int at = 0; at < scenes.length; at++) {
            Check.due(what + ", day " + day + " at " + at, x.strip(day, at), scenes[at]);
        }
        Check.due(what + ", day " + day + " behind", x.strip(day, scenes.length), NONE);
    }

    /** The labels of all scenes, in the order in which they were made. */
    static void labels(String what, Stripboard x, int... labels) {
        for (int i = 0; i < labels.length; i++) Check.due(what + ", label of " + i, x.label(i), labels[i]);
        Check.refused(what + ", no more", Check.INDEX, () -> x.label(labels.length));
    }

    /** A scene's number of faults after it was put alone on a day. */
    static int faultsAlone(Stripboard x, int scene, int day) {
        int faults = x.put(scene, day, 0);
        x.take(scene);
        return faults;
    }
}
