/** Promises 1 to 4 and 6 to 8; promise 5 has a class of its own. */
final class BasesAndJobsTest {
    private BasesAndJobsTest() {
    }

    static void promise1NewRoomIsEmpty() {
        InkKitchen room = new InkKitchen();
        Check.due(0, room::tins);
        Check.due(0, room::wear);
        Check.due(0, room::washes);
        Check.due(0, room::washesByAll);
        Check.due(-1, room::firstRun);
        Check.dueThrow(Check.INDEX, () -> room.state(0));
        for (int i = 0; i < 16; i++) {
            int base = i / 4;
            int place = i % 4;
            Check.due(0, () -> room.where(base, place));
        }
        Check.due(1, () -> room.pass(1));
    }

    static void promise1BasesHaveTheirFirstColours() {
        int[][] first = {{0, 0, 0}, {100, 10, 20}, {20, 100, 10}, {90, 90, 90}};
        InkKitchen room = Rooms.stocked(10);
        for (int base = 0; base < 4; base++) {
            int tenthsOf = base;
            int[] colour = first[base];
            Check.due(base, () -> room.job(colour[0], colour[1], colour[2], 10, 0));
            Check.due(10, () -> room.recipe(tenthsOf, tenthsOf));
        }
    }

    static void promise1RoomsShareNothing() {
        InkKitchen used = Rooms.plain(7, 8, 9);
        Rooms.printed(used, 10, 5, true);
        promise1NewRoomIsEmpty();
        promise1BasesHaveTheirFirstColours();
    }

    static void promise2SetBaseSetsEachPart() {
        for (int i = 0; i < 4; i++) {
            int base = i;
            InkKitchen room = Rooms.stocked(10);
            room.setBase(base, 1, 52, 33);
            room.job(1, 52, 33, 10, 0);
            Check.due(10, () -> room.recipe(0, base));
        }
    }

    static void promise2SetBaseTakesTheEdges() {
        InkKitchen room = Rooms.stocked(10);
        Check.due(0, Rooms.setBase(room, 0, 0, 100, 0));
        Check.due(0, Rooms.setBase(room, 3, 100, 0, 100));
        room.job(0, 100, 0, 10, 0);
        room.job(100, 0, 100, 10, 0);
        Check.due(10, () -> room.recipe(0, 0));
        Check.due(10, () -> room.recipe(1, 3));
    }

    static void promise2SetBaseRefusesWrongArguments() {
        InkKitchen room = Rooms.stocked(10);
        room.job(50, 50, 50, 10, 300);
        int[][] wrong = {{-1, 0, 0, 0}, {4, 0, 0, 0}, {1, -1, 0, 0}, {1, 101, 0, 0}, {1, 0, -1, 0},
            {1, 0, 101, 0}, {1, 0, 0, -1}, {1, 0, 0, 101}, {Integer.MIN_VALUE, 0, 0, 0},
            {0, Integer.MAX_VALUE, 0, 0}};
        String before = Rooms.told(room);
        for (int[] w : wrong) {
            Check.dueThrow(Check.ARGUMENT, Rooms.setBase(room, w[0], w[1], w[2], w[3]));
        }
        Check.same("the room", before, Rooms.told(room));
    }

    static void promise2SetBaseRefusesWhenSomethingWasMixed() {
        InkKitchen room = Rooms.stocked(100);
        room.job(0, 0, 0, 10, 0);
        Check.due(0, Rooms.setBase(room, 2, 9, 9, 9));
        room.mix(0);
        Rooms.dueThrowAndNoChange(room, Check.STATE, Rooms.setBase(room, 2, 1, 1, 1));
        Check.dueThrow(Check.ARGUMENT, Rooms.setBase(room, 2, 1, 1, 101));
        room.print(0, 10, false);
        Check.dueThrow(Check.STATE, Rooms.setBase(room, 2, 1, 1, 1));
        room.job(9, 9, 9, 10, 0);
        Check.due(10, () -> room.recipe(1, 2));
    }

    static void promise2SetBaseIsFreeAfterMixThatThrew() {
        InkKitchen room = new InkKitchen();
        room.job(0, 0, 0, 10, 300);
        Check.dueThrow(Check.STATE, () -> room.mix(0));
        Check.due(0, Rooms.setBase(room, 0, 1, 1, 1));
    }

    static void promise3BuyReturnsTheStock() {
        InkKitchen room = new InkKitchen();
        Check.due(1000, () -> room.buy(2, 1));
        Check.due(5001000, () -> room.buy(2, 5000));
        Check.due(3000, () -> room.buy(3, 3));
        Check.due(5001000, () -> room.where(2, 0));
        Check.due(0, () -> room.where(1, 0));
    }

    static void promise3BuyRefusesWrongArguments() {
        InkKitchen room = Rooms.stocked(10);
        int[][] wrong = {{-1, 1}, {4, 1}, {0, 0}, {0, -1}, {0, 5001},
            {0, Integer.MAX_VALUE}, {0, Integer.MIN_VALUE}, {Integer.MAX_VALUE, 1}};
        String before = Rooms.told(room);
        for (int[] w : wrong) {
            Check.dueThrow(Check.ARGUMENT, () -> room.buy(w[0], w[1]));
        }
        Check.same("the room", before, Rooms.told(room));
    }

    static void promise3BuyEndsAtAHundredKilogramsOfABase() {
        InkKitchen room = new InkKitchen();
        for (int i = 1; i < 20; i++) {
            room.buy(1, 5000);
        }
        room.buy(1, 4999);
        Rooms.dueThrowAndNoChange(room, Check.STATE, () -> room.buy(1, 2));
        Check.due(100000000, () -> room.buy(1, 1));
        Check.dueThrow(Check.STATE, () -> room.buy(1, 1));
        Check.dueThrow(Check.ARGUMENT, () -> room.buy(1, 0));
        Check.due(5000000, () -> room.buy(0, 5000));
    }

    static void promise3BuyCountsWhatWasUsedToo() {
        InkKitchen room = Rooms.plain(0, 0, 0);
        for (int i = 1; i < 20; i++) {
            room.buy(0, 5000);
        }
        Rooms.printed(room, 500, 500, false);
        Check.due(99500000, () -> room.where(0, 0));
        Check.dueThrow(Check.STATE, () -> room.buy(0, 1));
    }

    static void promise4JobsAreNumberedUpToSixteen() {
        InkKitchen room = new InkKitchen();
        for (int i = 0; i < 16; i++) {
            Check.due(i, () -> room.job(1, 2, 3, 10, 4));
        }
        Rooms.dueThrowAndNoChange(room, Check.STATE, () -> room.job(1, 2, 3, 10, 4));
        Check.dueThrow(Check.ARGUMENT, () -> room.job(1, 2, 3, 11, 4));
        Check.dueThrow(Check.INDEX, () -> room.state(16));
        Check.due(0, () -> room.state(15));
    }

    static void promise4JobTakesTheEdges() {
        InkKitchen room = new InkKitchen();
        Check.due(0, () -> room.job(0, 100, 0, 10, 0));
        Check.due(1, () -> room.job(100, 0, 100, 500, 300));
    }

    static void promise4JobRefusesWrongArguments() {
        InkKitchen room = Rooms.stocked(10);
        int[][] wrong = {{-1, 0, 0, 10, 0}, {101, 0, 0, 10, 0}, {0, -1, 0, 10, 0},
            {0, 101, 0, 10, 0}, {0, 0, -1, 10, 0}, {0, 0, 101, 10, 0}, {0, 0, 0, 0, 0},
            {0, 0, 0, 9, 0}, {0, 0, 0, -10, 0}, {0, 0, 0, 11, 0}, {0, 0, 0, 505, 0},
            {0, 0, 0, 510, 0}, {0, 0, 0, 10, -1}, {0, 0, 0, 10, 301},
            {0, 0, 0, Integer.MIN_VALUE, 0}, {0, 0, 0, 10, Integer.MAX_VALUE}};
        for (int[] w : wrong) {
            Check.dueThrow(Check.ARGUMENT, () -> room.job(w[0], w[1], w[2], w[3], w[4]));
        }
        Check.dueThrow(Check.INDEX, () -> room.state(0));
        Check.due(0, () -> room.job(0, 0, 0, 10, 0));
    }

    static void promise6MixTakesFromStock() {
        InkKitchen room = Rooms.stocked(1000);
        room.job(50, 50, 20, 100, 30);
        Check.due(6, () -> room.mix(0));
        Check.due(1, () -> room.state(0));
        int[] tenths = {2, 3, 4, 1};
        for (int i = 0; i < 4; i++) {
            int base = i;
            Check.due(1000000 - tenths[base] * 10000, () -> room.where(base, 0));
            Check.due(tenths[base] * 10000, () -> room.where(base, 2));
        }
    }

    static void promise6MixTakesFromTheTin() {
        InkKitchen room = Rooms.plain(10, 20, 30);
        Rooms.printed(room, 100, 65, false);
        room.job(10, 20, 30, 50, 0);
        Check.due(7, () -> room.recipe(1, 4));
        Check.due(0, () -> room.mix(1));
        Check.due(0, () -> room.inTin(0, 0));
        Check.due(5000000 - 100000 - 15000, () -> room.where(0, 0));
        Check.due(50000, () -> room.where(0, 2));
    }

    static void promise6MixReturnsTheGapAndKeepsTheOthersOut() {
        InkKitchen room = Rooms.plain(10, 20, 30);
        room.job(11, 22, 27, 10, 6);
        room.job(11, 22, 27, 10, 5);
        Check.due(6, () -> room.mix(0));
        Check.dueThrow(Check.STATE, () -> room.mix(1));
        Check.due(0, () -> room.state(1));
    }

    static void promise6MixRefuses() {
        InkKitchen room = Rooms.plain(0, 0, 0);
        Rooms.dueThrowAndNoChange(room, Check.INDEX, () -> room.mix(0));
        Check.dueThrow(Check.INDEX, () -> room.mix(-1));
        room.job(1, 0, 0, 10, 0);
        Rooms.dueThrowAndNoChange(room, Check.STATE, () -> room.mix(0));
        room.job(0, 0, 0, 10, 0);
        room.mix(1);
        Check.dueThrow(Check.STATE, () -> room.mix(1));
        room.print(1, 10, false);
        Rooms.dueThrowAndNoChange(room, Check.STATE, () -> room.mix(1));
        Check.dueThrow(Check.INDEX, () -> room.mix(2));
        Check.dueThrow(Check.INDEX, () -> room.mix(Integer.MIN_VALUE));
        Check.dueThrow(Check.INDEX, () -> room.mix(Integer.MAX_VALUE));
    }

    static void promise6EightJobsAreMixedAtMost() {
        InkKitchen room = Rooms.plain(0, 0, 0);
        for (int i = 0; i < 8; i++) {
            Rooms.mixed(room, 10);
        }
        room.job(0, 0, 0, 10, 300);
        Rooms.dueThrowAndNoChange(room, Check.STATE, () -> room.mix(8));
        room.print(5, 10, false);
        Check.due(0, () -> room.mix(8));
    }

    static void promise7PrintUsesUpAndLeavesTins() {
        InkKitchen room = Rooms.stocked(1000);
        room.job(50, 50, 20, 100, 30);
        room.mix(0);
        Check.due(0, () -> room.print(0, 33, false));
        Check.due(2, () -> room.state(0));
        int[] tenths = {2, 3, 4, 1};
        for (int i = 0; i < 4; i++) {
            int base = i;
            Check.due(tenths[base] * 6700, () -> room.inTin(0, base));
            Check.due(tenths[base] * 3300, () -> room.where(base, 3));
            Check.due(0, () -> room.where(base, 2));
        }
    }

    static void promise7PrintNumbersTheTins() {
        InkKitchen room = Rooms.plain(0, 0, 0);
        for (int i = 0; i < 4; i++) {
            Rooms.mixed(room, 20);
        }
        Check.due(0, () -> room.print(2, 1, false));
        Check.due(-1, () -> room.print(0, 20, false));
        Check.due(1, () -> room.print(3, 19, false));
        Check.due(2, () -> room.print(1, 10, false));
        Check.due(19000, () -> room.inTin(0, 0));
        Check.due(1000, () -> room.inTin(1, 0));
        Check.due(10000, () -> room.inTin(2, 0));
    }

    static void promise7EachOfSixteenJobsMayLeaveATin() {
        InkKitchen room = Rooms.plain(0, 0, 0);
        for (int i = 0; i < 16; i++) {
            int job = Rooms.mixed(room, 500);
            Check.due(job, () -> room.print(job, 1, false));
        }
        Check.due(16, room::tins);
    }

    static void promise7PrintRefuses() {
        InkKitchen room = Rooms.plain(0, 0, 0);
        Check.dueThrow(Check.INDEX, () -> room.print(0, 1, true));
        Check.dueThrow(Check.INDEX, () -> room.print(-1, 0, true));
        room.job(0, 0, 0, 20, 0);
        Check.dueThrow(Check.INDEX, () -> room.print(1, 0, true));
        int[] wrong = {0, 21, -1, Integer.MIN_VALUE, Integer.MAX_VALUE};
        for (int state = 0; state < 3; state++) {
            for (int used : wrong) {
                Check.dueThrow(Check.ARGUMENT, () -> room.print(0, used, true));
            }
            if (state == 0) {
                Rooms.dueThrowAndNoChange(room, Check.STATE, () -> room.print(0, 1, true));
                room.mix(0);
            } else if (state == 1) {
                Check.due(0, () -> room.print(0, 1, false));
            } else {
                Rooms.dueThrowAndNoChange(room, Check.STATE, () -> room.print(0, 20, true));
            }
        }
    }

    static void promise7PrintThatThrewHasChangedNothing() {
        InkKitchen room = Rooms.plain(0, 0, 0);
        Rooms.mixed(room, 20);
        Rooms.dueThrowAndNoChange(room, Check.ARGUMENT, () -> room.print(0, 21, true));
        Check.due(-1, () -> room.print(0, 20, true));
    }

    static void promise7TakingGoesToTheGreatestRest() {
        // Of 3 and 9997 mg are 2.7 and 8997.3 taken, so that the 3 mg go whole.
        InkKitchen lower = thinned(new int[] {3, 7}, 1);
        Check.due(0, () -> lower.inTin(3, 0));
        Check.due(1000, () -> lower.inTin(3, 1));
        InkKitchen higher = thinned(new int[] {7, 3}, 0);
        Check.due(1000, () -> higher.inTin(3, 0));
        Check.due(0, () -> higher.inTin(3, 1));
        // Of 7 and 9993 mg are 6.3 and 8993.7 taken.
        InkKitchen much = thinned(new int[] {7, 3}, 1);
        Check.due(1, () -> much.inTin(3, 0));
        Check.due(999, () -> much.inTin(3, 1));
    }

    static void promise7OfTheSameRestTheLowerBaseGivesMore() {
        // Of 5 and 9995 mg are 4.5 and 8995.5 taken.
        InkKitchen lower = thinned(new int[] {5, 5}, 1);
        Check.due(0, () -> lower.inTin(3, 0));
        Check.due(1000, () -> lower.inTin(3, 1));
        InkKitchen higher = thinned(new int[] {5, 5}, 0);
        Check.due(999, () -> higher.inTin(3, 0));
        Check.due(1, () -> higher.inTin(3, 1));
    }

    static void promise7SeveralMissingMilligramsComeFromSeveralBases() {
        // Of 3, 4 and 9993 mg are 2.7, 3.6 and 8993.7 taken: two are missing.
        InkKitchen room = thinned(new int[] {3, 4, 3}, 2);
        Check.due(0, () -> room.inTin(3, 0));
        Check.due(1, () -> room.inTin(3, 1));
        Check.due(999, () -> room.inTin(3, 2));
    }

    static void promise7TakingLosesNothing() {
        InkKitchen room = thinned(new int[] {3, 7}, 1);
        for (int i = 0; i < 4; i++) {
            int base = i;
            int sum = 0;
            for (int place = 0; place < 4; place++) {
                sum += room.where(base, place);
            }
            Check.same("all of base " + base, new String[] {"3000", "1000000", "0", "0"}[base],
                    Integer.toString(sum));
        }
    }

    /**
     * A room in which 9 of 10 grams of an ink were used up four times, with 9 grams of a base added
     * to the gram that was left each time: the first ink has some grams of each base, and behind
     * it a thousandth of them stands in the fourth one, as no base but the added one is in stock.
     */
    private static InkKitchen thinned(int[] grams, int added) {
        int[][] colours = {{0, 0, 0}, {100, 10, 20}, {20, 100, 10}};
        InkKitchen room = new InkKitchen();
        int[] sum = new int[3];
        for (int base = 0; base < grams.length; base++) {
            room.buy(base, base == added ? 1000 : grams[base]);
            for (int part = 0; part < 3; part++) {
                sum[part] += grams[base] * colours[base][part];
            }
        }
        room.job(sum[0] / 10, sum[1] / 10, sum[2] / 10, 10, 0);
        for (int job = 0; job < 4; job++) {
            int last = job;
            if (job > 0) {
                room.job(0, 0, 0, 10, 300);
                Check.due(1, () -> room.recipe(last, 4));
                Check.due(9, () -> room.recipe(last, added));
            }
            room.mix(job);
            Check.due(last, () -> room.print(last, 9, false));
        }
        return room;
    }

    static void promise8PassReturnsTheDay() {
        InkKitchen room = new InkKitchen();
        Check.due(1, () -> room.pass(1));
        Check.due(101, () -> room.pass(100));
        Check.due(108, () -> room.pass(7));
    }

    static void promise8PassRefusesWrongArguments() {
        InkKitchen room = new InkKitchen();
        int[] wrong = {0, -1, 101, Integer.MIN_VALUE, Integer.MAX_VALUE};
        for (int days : wrong) {
            Check.dueThrow(Check.ARGUMENT, () -> room.pass(days));
        }
        Check.due(5, () -> room.pass(5));
    }

    static void promise8PassEndsAtDayTenThousand() {
        InkKitchen room = new InkKitchen();
        for (int i = 1; i < 100; i++) {
            room.pass(100);
        }
        room.pass(50);
        Check.dueThrow(Check.STATE, () -> room.pass(51));
        Check.dueThrow(Check.STATE, () -> room.pass(100));
        Check.due(10000, () -> room.pass(50));
        Check.dueThrow(Check.STATE, () -> room.pass(1));
        Check.dueThrow(Check.ARGUMENT, () -> room.pass(101));
    }
}
