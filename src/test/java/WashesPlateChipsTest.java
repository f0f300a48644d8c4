/** Promises 14 to 18. */
final class WashesPlateChipsTest {
    private WashesPlateChipsTest() {
    }

    static void promise14NoMixedJobsCostNothing() {
        InkKitchen room = Rooms.stocked(1000);
        dueBest(room, 0, -1);
        room.job(0, 0, 0, 10, 0);
        dueBest(room, 0, -1);
        Rooms.printed(room, 10, 10, false);
        dueBest(room, 0, -1);
    }

    static void promise14NothingIsWashedBeforeTheFirstRun() {
        InkKitchen room = Rooms.stocked(1000);
        mixPlain(room, 3);
        dueBest(room, 0, 0);
    }

    static void promise14WashingToABrighterColourCostsTwice() {
        InkKitchen room = Rooms.stocked(1000);
        printPlain(room, 0);
        mixPlain(room, 3);
        dueBest(room, 540, 1);
        InkKitchen darker = Rooms.stocked(1000);
        printPlain(darker, 3);
        mixPlain(darker, 0);
        dueBest(darker, 270, 1);
    }

    static void promise14WashingToAColourOfTheSameSumCostsOnce() {
        InkKitchen room = Rooms.stocked(1000);
        printPlain(room, 1);
        mixPlain(room, 2);
        dueBest(room, 180, 1);
        InkKitchen same = Rooms.stocked(1000);
        printPlain(same, 1);
        mixPlain(same, 1);
        dueBest(same, 0, 1);
    }

    static void promise14TheOneColourPrintedLastCounts() {
        InkKitchen room = Rooms.stocked(1000);
        printPlain(room, 0);
        mixPlain(room, 3);
        mixPlain(room, 3);
        room.print(1, 10, false);
        dueBest(room, 0, 2);
    }

    static void promise14ColoursAreThoseOfTheInks() {
        InkKitchen room = Rooms.plain(10, 10, 10);
        room.job(10, 10, 10, 10, 300);
        room.job(100, 100, 100, 10, 300);
        room.mix(0);
        room.mix(1);
        room.print(0, 10, false);
        dueBest(room, 0, 1);
    }

    static void promise14BestOfSomeOrders() {
        InkKitchen room = Rooms.stocked(1000);
        for (int base = 0; base < 4; base++) {
            mixPlain(room, base);
        }
        dueBest(room, 470, 3);
        room.print(0, 10, false);
        dueBest(room, 740, 1);
        room.print(3, 10, false);
        dueBest(room, 340, 1);
    }

    static void promise14EightMixedJobs() {
        InkKitchen room = Rooms.stocked(1000);
        for (int i = 0; i < 8; i++) {
            int tenths = (5 * i + 3) % 8;
            room.job(9 * tenths, 9 * tenths, 9 * tenths, 10, 0);
            room.mix(i);
        }
        // From the brightest, job 4 with 7 tenths of white, down to the one without white.
        Check.due(189, room::washes);
        Check.due(4, room::firstRun);
    }

    static void promise15ThrowsAboveSevenMixedJobs() {
        InkKitchen room = Rooms.plain(0, 0, 0);
        for (int i = 0; i < 7; i++) {
            Rooms.mixed(room, 10);
            Check.due(0, room::washesByAll);
        }
        Rooms.mixed(room, 10);
        Rooms.dueThrowAndNoChange(room, Check.STATE, room::washesByAll);
        Check.due(0, room::washes);
        Check.due(0, room::firstRun);
        room.print(3, 10, false);
        Check.due(0, room::washesByAll);
    }

    static void promise16OfTheSameCostTheLowerJobIsFirst() {
        InkKitchen room = Rooms.stocked(1000);
        mixPlain(room, 2);
        mixPlain(room, 1);
        dueBest(room, 180, 0);
        Rooms.printed(room, 10, 10, false);
        InkKitchen between = Rooms.stocked(1000);
        between.job(60, 55, 15, 10, 0);
        between.mix(0);
        between.print(0, 10, false);
        mixPlain(between, 2);
        mixPlain(between, 1);
        // 90 to the one or to the other, of the same sum, and 180 between them.
        dueBest(between, 270, 1);
    }

    static void promise16TheFirstOneIsTheNumberOfTheJob() {
        InkKitchen room = Rooms.stocked(1000);
        room.job(0, 0, 0, 10, 0);
        printPlain(room, 0);
        mixPlain(room, 3);
        mixPlain(room, 0);
        dueBest(room, 540, 3);
    }

    static void promise17WearGrowsWithPrintingsAndGrams() {
        InkKitchen room = Rooms.plain(0, 0, 0);
        Rooms.mixed(room, 500);
        Check.due(0, room::wear);
        room.print(0, 99, false);
        Check.due(1, room::wear);
        Rooms.printed(room, 500, 100, false);
        Check.due(3, room::wear);
        Rooms.printed(room, 500, 299, false);
        Check.due(6, room::wear);
        Rooms.printed(room, 10, 1, false);
        Check.due(7, room::wear);
    }

    static void promise17ThePlateIsChangedAtTen() {
        InkKitchen room = Rooms.plain(0, 0, 0);
        Rooms.printed(room, 500, 500, false);
        Rooms.printed(room, 300, 299, false);
        Check.due(9, room::wear);
        Rooms.printed(room, 10, 1, false);
        Check.due(0, room::wear);
        Rooms.printed(room, 500, 499, false);
        Check.due(5, room::wear);
        Rooms.printed(room, 500, 500, false);
        Check.due(0, room::wear);
        Rooms.printed(room, 100, 100, false);
        Check.due(2, room::wear);
    }

    static void promise17DaysDoNotWear() {
        InkKitchen room = Rooms.plain(0, 0, 0);
        Rooms.printed(room, 10, 1, false);
        room.pass(100);
        Check.due(1, room::wear);
    }

    static void promise18ChipFadesEachTenDays() {
        InkKitchen room = Rooms.plain(50, 60, 70);
        room.pass(5);
        Rooms.printed(room, 10, 1, true);
        Check.due(0, () -> room.chipGap(0, 0));
        room.pass(9);
        Check.due(0, () -> room.chipGap(0, 0));
        room.pass(1);
        Check.due(3, () -> room.chipGap(0, 0));
        room.pass(19);
        Check.due(6, () -> room.chipGap(0, 0));
        room.pass(1);
        Check.due(9, () -> room.chipGap(0, 0));
    }

    static void promise18PartsFadeUpToAHundred() {
        InkKitchen room = Rooms.plain(100, 99, 90);
        Rooms.printed(room, 10, 1, true);
        room.pass(10);
        Check.due(2, () -> room.chipGap(0, 0));
        room.pass(100);
        Check.due(11, () -> room.chipGap(0, 0));
    }

    static void promise18EachChipFadesFromItsOwnDay() {
        InkKitchen room = Rooms.plain(10, 10, 10);
        Rooms.mixed(room, 10);
        Rooms.mixed(room, 10);
        room.print(0, 1, true);
        room.pass(15);
        room.print(1, 1, true);
        room.pass(15);
        Check.due(9, () -> room.chipGap(0, 1));
        Check.due(3, () -> room.chipGap(1, 0));
    }

    static void promise18TheOtherOneHasTheColourAsItWasMixed() {
        InkKitchen room = Rooms.stocked(1000);
        room.job(50, 50, 20, 50, 30);
        room.mix(0);
        room.print(0, 50, true);
        mixPlain(room, 0);
        Check.due(0, () -> room.chipGap(0, 0));
        Check.due(47 + 52 + 19, () -> room.chipGap(0, 1));
        room.print(1, 10, true);
        Check.due(47 + 52 + 19, () -> room.chipGap(0, 1));
        room.pass(20);
        Check.due(45 + 50 + 17, () -> room.chipGap(1, 0));
        Check.due(49 + 54 + 21, () -> room.chipGap(0, 1));
    }

    static void promise18ChipGapRefuses() {
        InkKitchen room = Rooms.plain(0, 0, 0);
        Check.dueThrow(Check.INDEX, () -> room.chipGap(0, 0));
        Rooms.printed(room, 10, 1, true);
        Rooms.printed(room, 10, 1, false);
        Rooms.mixed(room, 10);
        room.job(0, 0, 0, 10, 0);
        int[] wrong = {-1, 4, 16, Integer.MIN_VALUE, Integer.MAX_VALUE};
        for (int job : wrong) {
            Check.dueThrow(Check.INDEX, () -> room.chipGap(job, 0));
            Check.dueThrow(Check.INDEX, () -> room.chipGap(0, job));
            Check.dueThrow(Check.INDEX, () -> room.chipGap(1, job));
        }
        Rooms.dueThrowAndNoChange(room, Check.STATE, () -> room.chipGap(1, 0));
        Check.dueThrow(Check.STATE, () -> room.chipGap(2, 0));
        Check.dueThrow(Check.STATE, () -> room.chipGap(3, 0));
        Check.dueThrow(Check.STATE, () -> room.chipGap(0, 3));
        Check.due(0, () -> room.chipGap(0, 1));
        Check.due(0, () -> room.chipGap(0, 2));
    }

    /** The best order as it is told by all three calls. */
    private static void dueBest(InkKitchen room, int cost, int first) {
        Check.due(cost, room::washes);
        Check.due(cost, room::washesByAll);
        Check.due(first, room::firstRun);
    }

    /** Takes and mixes a job of the colour that a base has at first. Returns its number. */
    private static int mixPlain(InkKitchen room, int base) {
        int[][] first = {{0, 0, 0}, {100, 10, 20}, {20, 100, 10}, {90, 90, 90}};
        int job = room.job(first[base][0], first[base][1], first[base][2], 10, 0);
        room.mix(job);
        return job;
    }

    private static void printPlain(InkKitchen room, int base) {
        room.print(mixPlain(room, base), 10, false);
    }
}
