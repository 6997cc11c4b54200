/** The sentences of the terms on faults and on what binds, each with its bounds. */
public final class TermsBoardTest {
    private static final int NONE = Stripboard.NONE;

    public static void main(String[] args) {
        itsPlaceIsAllowed();
        outsideByDayWithinTheLight();
        beginsAndEndsWithinTheLight();
        nobodyWhomItNeedsIsIll();
        aChildWhomItNeeds();
        eachChildOfMany();
        ofAChildFromCallToWrap();
        boundBehindOneOnAnEarlierDay();
        boundBehindOneAheadOnTheSame();
        boundBehindOneThatWasShot();
        boundBehindOneThatIsOmitted();
        boundBehindEachOfMany();
        aDayIsTooLong();
        forEachSceneOfIt();
        allFaultsTogether();
        refusedIfItWouldGoRound();
        toldTwiceCountedOnce();
        Check.end("TermsBoardTest");
    }

    /** "its place is allowed (1)" */
    private static void itsPlaceIsAllowed() {
        Stripboard x = Film.of(2, 1);
        x.scene(0, 1, true, true, 1);
        x.permit(1, 3, false);
        x.put(0, 3, 0);
        Check.due("not allowed", x.put(1, 3, 1), 1);
        Check.due("the other is", x.ofScene(0, 4), 0);
        x.permit(1, 3, true);
        Check.due("allowed again", x.ofScene(1, 4), 0);
        x.permit(1, 2, false);
        x.permit(1, 4, false);
        Check.due("other days", x.ofScene(1, 4), 0);
    }

    /** "if it is outside by day": neither inside, nor by night. */
    private static void outsideByDayWithinTheLight() {
        Stripboard x = Film.of(1, 0);
        x.light(3, 480, 0, 0);
        for (int kind = 0; kind < 4; kind++) {
            x.scene(NONE, 0, kind < 2, kind % 2 == 0, 1);
            Check.due("day " + (kind < 2) + ", inside " + (kind % 2 == 0), Film.faultsAlone(x, kind, 3), kind == 1 ? 2 : 0);
        }
    }

    /** "it begins and ends within the light (2)": at its first minute, and at its last; both ends count. */
    private static void beginsAndEndsWithinTheLight() {
        int[][] fromToFault = {{495, 510, 0}, {496, 510, 2}, {495, 509, 2}, {494, 511, 0}, {510, 510, 2}, {495, 495, 2}};
        for (int[] row : fromToFault) {
            Stripboard x = Film.of(1, 1);
            x.scene(0, 0, true, false, 1);
            x.light(0, 480, row[0], row[1]);
            x.put(0, 0, 0);
            Check.due("495 to 510 in " + row[0] + " to " + row[1], x.put(1, 0, 1), row[2]);
        }
        Stripboard x = Film.of(1, 0);
        x.scene(NONE, 0, true, false, 1);
        x.light(0, 1200, 1200, 1440);
        x.put(0, 0, 0);
        x.shoot(0, 240);
        Check.due("to 1440", x.ofScene(0, 4), 0);
        x.lose(0);
        x.put(0, 0, 0);
        x.shoot(0, 241);
        Check.due("to 1441: over midnight is no light", x.ofScene(0, 4), 2);
    }

    /** "nobody whom it needs is ill (4)": one of eight is enough, and counts once. */
    private static void nobodyWhomItNeedsIsIll() {
        Stripboard x = Film.of(1, 2);
        for (int i = 0; i < 8; i++) Film.person(x, 0, 1);
        x.put(0, 3, 0);
        x.put(1, 3, 1);
        x.needs(0, 127);
        x.ill(7, 3, true);
        Check.due("not needed", x.ofScene(0, 4), 0);
        x.needs(0, 128);
        Check.due("needed", x.ofScene(0, 4), 4);
        x.needs(0, 255);
        for (int i = 0; i < 7; i++) {
            x.ill(i, 3, true);
            Check.due("more of them", x.ofScene(0, 4), 4);
        }
        Check.due("one that needs nobody", x.ofScene(1, 4), 0);
        for (int i = 0; i < 8; i++) {
            Check.due("still one", x.ofScene(0, 4), 4);
            x.ill(i, 3, false);
        }
        Check.due("nobody", x.ofScene(0, 4), 0);
        x.ill(0, 2, true);
        x.ill(0, 4, true);
        Check.due("on other days", x.ofScene(0, 4), 0);
    }

    /** "a child whom it needs has a wrap at most 480 minutes behind the call (8)" */
    private static void aChildWhomItNeeds() {
        int[][] minutesAndFault = {{479, 0}, {480, 0}, {481, 8}};
        for (int[] row : minutesAndFault) {
            for (int prepare : new int[] {0, 30, 180}) {
                Stripboard x = Film.of(1, 1);
                x.person(0, 1, prepare, true);
                x.person(0, 1, prepare, false);
                x.needs(0, 1);
                x.put(0, 0, 0);
                x.shoot(0, row[0] - prepare);
                Check.due(row[0] + " minutes, " + prepare + " to prepare", x.ofScene(0, 4), row[1]);
                x.needs(0, 2);
                Check.due("no child", x.ofScene(0, 4), 0);
            }
        }
    }

    /** One of the children whom it needs is enough, the first or the last of eight; it counts once. */
    private static void eachChildOfMany() {
        Stripboard x = Film.of(1, 8);
        for (int i = 0; i < 8; i++) {
            x.person(0, 1, i % 2 == 0 ? 180 : 0, true);
            x.needs(i, 1 << i);
            x.put(i, 0, i);
        }
        x.shoot(0, 301);
        x.shoot(6, 301);
        // An eighth lasts 301 minutes: all of an even number have a wrap 481 minutes behind the call, the others 301.
        for (int i = 0; i < 8; i++) Check.due("child " + i, x.ofScene(i, 4) & 8, i % 2 == 0 ? 8 : 0);
        for (int i = 0; i < 8; i++) {
            for (int other = 0; other < 8; other++) {
                x.needs(i, 1 << i | 1 << other);
                Check.due("the children " + i + " and " + other, x.ofScene(i, 4) & 8, i != other || i % 2 == 0 ? 8 : 0);
                x.needs(i, 1 << i);
            }
        }
    }

    /** The minutes between its scenes count, lunch and moves too; it is a fault of those that need the child. */
    private static void ofAChildFromCallToWrap() {
        for (int minutes = 59; minutes <= 62; minutes++) {
            Stripboard x = Film.of(2, 0);
            x.person(0, 1, 0, true);
            x.person(0, 1, 0, true);
            x.move(0, 1, minutes);
            for (int i = 0; i < 3; i++) {
                x.scene(i - 1, i / 2, true, true, 1);
                x.put(i, 0, i);
            }
            x.needs(0, 1);
            x.needs(1, 2);
            x.needs(2, 1);
            x.shoot(0, 30);
            x.shoot(1, 300);
            x.shoot(2, 60);
            // 30, 300, the move, 30 of lunch, 60.
            for (int i = 0; i < 3; i++) Check.due("by a move", x.ofScene(i, 4), i != 1 && minutes > 60 ? 8 : 0);
        }
    }

    /** "what it is bound to be behind is on an earlier day": by one day, or by 29; later ones are not. */
    private static void boundBehindOneOnAnEarlierDay() {
        Stripboard x = Film.of(1, 2);
        x.bind(1, 0);
        Check.due("it is off", x.put(1, 15, 0), 16);
        for (int day = 0; day < 30; day++) {
            if (day == 15) continue;
            Check.due("the other one has none", x.put(0, day, 0), 0);
            Check.due("day " + day, x.ofScene(1, 4), day < 15 ? 0 : 16);
            x.take(0);
        }
        x.take(1);
        x.put(0, 0, 0);
        Check.due("29 days", x.put(1, 29, 0), 0);
    }

    /** "or ahead on the same": at once, or by more; behind is not. */
    private static void boundBehindOneAheadOnTheSame() {
        Stripboard x = Film.of(1, 8);
        x.bind(3, 5);
        for (int i = 0; i < 8; i++) if (i != 5) x.put(i, 9, i < 5 ? i : i - 1);
        for (int at = 0; at <= 7; at++) {
            x.put(5, 9, at);
            Check.due("at " + at, x.ofScene(3, 4), at <= 3 ? 0 : 16);
            x.take(5);
        }
    }

    /** "or was shot": on whatever day, behind on the same too; but lost it is shot no more. */
    private static void boundBehindOneThatWasShot() {
        Stripboard x = Film.of(1, 3);
        x.bind(0, 1);
        x.bind(2, 1);
        x.put(0, 0, 0);
        x.put(1, 0, 1);
        Check.due("behind it is", x.ofScene(0, 4), 16);
        x.shoot(1, 15);
        Check.due("shot behind it", x.ofScene(0, 4), 0);
        x.next();
        Check.due("on a day that is over", x.put(0, 1, 0), 0);
        x.lose(1);
        Check.due("lost", x.ofScene(0, 4), 16);
        Check.due("lost", x.put(2, 1, 1), 16);
    }

    /** "or is omitted" */
    private static void boundBehindOneThatIsOmitted() {
        Stripboard x = Film.of(1, 2);
        x.bind(0, 1);
        x.put(0, 3, 0);
        x.put(1, 4, 0);
        Check.due("on a later day", x.ofScene(0, 4), 16);
        x.omit(1);
        Check.due("omitted", x.ofScene(0, 4), 0);
    }

    /** Each of the 19 that can be counts; one of them is enough for the fault, which counts once. */
    private static void boundBehindEachOfMany() {
        Stripboard x = Film.of(1, 20);
        for (int i = 0; i < 20; i++) if (i != 7) x.bind(7, i);
        x.put(7, 20, 0);
        for (int i = 0; i < 20; i++) {
            if (i == 7) continue;
            Check.due("not all", x.ofScene(7, 4), 16);
            x.put(i, i, 0);
        }
        Check.due("all", x.ofScene(7, 4), 0);
        for (int i = 0; i < 20; i++) {
            if (i == 7) continue;
            x.take(i);
            Check.due("all but " + i, x.ofScene(7, 4), 16);
            x.put(i, i, 0);
        }
    }

    /** "A day is too long, if its last scene ends more than 720 minutes behind the start" */
    private static void aDayIsTooLong() {
        for (int start : new int[] {0, 480, 1200}) {
            for (int minutes = 719; minutes <= 722; minutes++) {
                Stripboard x = Film.of(1, 1);
                x.light(0, start, 0, 1440);
                x.put(0, 0, 0);
                x.shoot(0, minutes - 30);
                Check.due("from " + start + " for " + minutes, x.ofScene(0, 4), minutes > 720 ? 32 : 0);
            }
        }
    }

    /** "(32, for each scene of it)": up to 8, the first and those that were shot, too; not for those of other days. */
    private static void forEachSceneOfIt() {
        Stripboard x = Film.of(1, 9);
        for (int i = 0; i < 8; i++) x.put(i, 0, i);
        x.put(8, 1, 0);
        for (int i = 0; i < 7; i++) x.shoot(i, 96);
        Check.due("672 and 30, and 96 of the last", x.ofScene(7, 3), 480 + 798);
        for (int i = 0; i < 8; i++) Check.due("each", x.ofScene(i, 4), 32);
        Check.due("of another day", x.ofScene(8, 4), 0);
        x.shoot(7, 18);
        for (int i = 0; i < 8; i++) Check.due("720 now", x.ofScene(i, 4), 0);
    }

    /** "the sum of what is told for each": each fault alone, and all, 63. */
    private static void allFaultsTogether() {
        Stripboard x = Film.of(1, 0);
        x.person(0, 1, 0, true);
        x.scene(NONE, 0, true, false, 32);
        x.scene(0, 0, true, false, 15);
        x.needs(0, 1);
        x.put(0, 3, 0);
        x.put(1, 3, 1);
        Check.due("510 to 990, to 1215", x.ofScene(0, 4), 32);
        Check.due("and the light", x.ofScene(1, 4), 2 + 32);
        x.needs(1, 1);
        Check.due("a child", x.ofScene(0, 4), 8 + 32);
        x.bind(0, 1);
        Check.due("bound", x.ofScene(0, 4), 8 + 16 + 32);
        x.permit(0, 3, false);
        Check.due("not allowed", x.ofScene(0, 4), 1 + 8 + 16 + 32);
        x.ill(0, 3, true);
        Check.due("ill", x.ofScene(0, 4), 1 + 4 + 8 + 16 + 32);
        x.light(3, 1200, 0, 1440);
        Check.due("all", x.ofScene(0, 4), 63);
        Check.due("all but what binds", x.ofScene(1, 4), 47);
        x.take(0);
        x.take(1);
        Check.due("told by put", x.put(0, 3, 0), 1 + 2 + 4 + 16);
        Check.due("told by put", x.put(1, 3, 1), 47);
    }

    /** "To bind a scene behind another one is refused, if it would go round": by one, two, three, and all 20. */
    private static void refusedIfItWouldGoRound() {
        for (int many = 1; many <= 20; many++) {
            Stripboard x = Film.of(1, 20);
            for (int i = 0; i + 1 < many; i++) Check.due("chain", x.bind(i + 1, i), 1);
            int last = many - 1;
            Check.refused("round by " + many, Check.STATE, () -> x.bind(0, last));
            if (many > 1) Check.due("not the other way", x.bind(last, 0), many == 2 ? 1 : 2);
            if (many < 20) Check.due("not by another one", x.bind(0, last + 1), 1);
        }
        for (int middle = 0; middle < 20; middle++) {
            Stripboard x = Film.of(1, 20);
            int behind = (middle + 7) % 20;
            int ahead = (middle + 13) % 20;
            x.bind(behind, middle);
            x.bind(middle, ahead);
            Check.refused("round by " + middle, Check.STATE, () -> x.bind(ahead, behind));
        }
        Stripboard x = Film.of(1, 4);
        x.bind(3, 1);
        x.bind(3, 2);
        x.bind(1, 0);
        x.bind(2, 0);
        Check.refused("by either way", Check.STATE, () -> x.bind(0, 3));
        x.omit(1);
        x.omit(2);
        Check.refused("by omitted ones", Check.STATE, () -> x.bind(0, 3));
        Check.due("side by side", x.bind(1, 2), 2);
    }

    /** "those told twice counted once": up to 19. */
    private static void toldTwiceCountedOnce() {
        Stripboard x = Film.of(1, 20);
        for (int i = 0; i < 19; i++) {
            Check.due("one more", x.bind(19, i), i + 1);
            for (int j = 0; j <= i; j++) Check.due("told twice", x.bind(19, j), i + 1);
        }
        x.omit(0);
        Check.due("omitted ones count", x.bind(19, 0), 19);
        Check.due("another one's do not", x.bind(18, 0), 1);
    }
}
