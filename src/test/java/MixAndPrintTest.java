/** Promises 6 and 7. */
final class MixAndPrintTest {
    private MixAndPrintTest() {
    }

    @Says(promise = 6, value = "Mixes a job.")
    static void mixTakesTheTenthsFromTheStock() {
        InkKitchen room = Rooms.stocked(1000);
        room.job(50, 50, 20, 100, 30);
        room.mix(0);
        Check.due(1, () -> room.state(0));
        int[] tenths = {2, 3, 4, 1};
        for (int i = 0; i < 4; i++) {
            int base = i;
            Check.due(1000000 - tenths[base] * 10000, () -> room.where(base, 0));
            Check.due(tenths[base] * 10000, () -> room.where(base, 2));
        }
    }

    @Says(promise = 6, value = "Mixes a job.")
    static void mixTakesFromATinAndFromTheStock() {
        InkKitchen room = Rooms.plain(10, 20, 30);
        Rooms.printed(room, 100, 65, false);
        room.job(10, 20, 30, 50, 0);
        Check.due(7, () -> room.recipe(1, 4));
        Check.due(0, () -> room.mix(1));
        Check.due(0, () -> room.inTin(0, 0));
        Check.due(5000000 - 100000 - 15000, () -> room.where(0, 0));
        Check.due(50000, () -> room.where(0, 2));
    }

    @Says(promise = 6, value = "Mixes a job.")
    static void whatWasMixedFollowsTheRecipeThatWasToldBefore() {
        InkKitchen room = Rooms.busy();
        int[] told = new int[6];
        int[] stock = new int[4];
        for (int what = 0; what < 6; what++) {
            told[what] = room.recipe(3, what);
        }
        for (int base = 0; base < 4; base++) {
            stock[base] = room.where(base, 0) - 2000 * told[base];
        }
        Check.due(room.recipe(3, 6), () -> room.mix(3));
        Check.same("the tin", "0", Integer.toString(told[5]));
        int inTin = 0;
        for (int i = 0; i < 4; i++) {
            int base = i;
            Check.due(stock[base], () -> room.where(base, 0));
            inTin += room.inTin(0, base);
        }
        Check.same("the rest of the tin", Integer.toString(10000 - 2000 * told[4]),
                Integer.toString(inTin));
    }

    @Says(promise = 6, value = "Returns the gap.")
    static void mixReturnsAGapOfNothingAndTheGreatestOne() {
        InkKitchen room = Rooms.plain(0, 0, 0);
        room.job(0, 0, 0, 10, 0);
        room.job(100, 100, 100, 10, 300);
        Check.due(0, () -> room.mix(0));
        Check.due(300, () -> room.mix(1));
    }

    @Says(promise = 6, value = "Returns the gap.")
    static void mixReturnsTheGapOfTheRecipeNotThatOfTheJob() {
        InkKitchen room = Rooms.plain(10, 20, 30);
        room.job(11, 22, 27, 10, 6);
        room.job(11, 22, 27, 10, 300);
        Check.due(6, () -> room.mix(0));
        Check.due(6, () -> room.mix(1));
    }

    @Says(promise = 6, value = "Throws `IndexOutOfBoundsException` if there is no such job")
    static void mixAsksForAJobThatThereIs() {
        Twins.dueRange(0, 2, Check.INDEX, Rooms::waiting, (room, job) -> room.mix(job));
        Twins.dueRefusal(Check.INDEX, InkKitchen::new, room -> room.mix(0));
    }

    @Says(promise = 6, value = "Throws `IndexOutOfBoundsException` if there is no such job")
    static void mixLooksForTheJobFirst() {
        Twins.dueRefusal(Check.INDEX, () -> mixedJobs(8), room -> room.mix(-1),
                room -> room.mix(9), room -> room.mix(16));
    }

    @Says(promise = 6, value = "Throws `IllegalStateException` if it is not open")
    static void aMixedJobIsNotMixedAgain() {
        Twins.dueRefusal(Check.STATE, Rooms::busy, room -> room.mix(2));
    }

    @Says(promise = 6, value = "Throws `IllegalStateException` if it is not open")
    static void aPrintedJobIsNotMixedAgain() {
        Twins.dueRefusal(Check.STATE, Rooms::busy, room -> room.mix(0), room -> room.mix(1));
    }

    @Says(promise = 6, value = "8 jobs are mixed")
    static void theEighthJobIsMixed() {
        InkKitchen room = mixedJobs(7);
        Check.due(0, () -> room.mix(7));
        Check.due(80000, () -> room.where(0, 2));
    }

    @Says(promise = 6, value = "8 jobs are mixed")
    static void theNinthJobIsNotMixed() {
        Twins.dueRefusal(Check.STATE, () -> mixedJobs(8), room -> room.mix(8));
    }

    @Says(promise = 6, value = "8 jobs are mixed")
    static void whenOneOfEightIsPrintedAnotherOneIsMixed() {
        InkKitchen room = mixedJobs(8);
        Check.dueThrow(Check.STATE, () -> room.mix(8));
        room.print(5, 10, false);
        Check.due(0, () -> room.mix(8));
        Check.due(8, () -> {
            int count = 0;
            for (int job = 0; job < 9; job++) {
                count += room.state(job) == 1 ? 1 : 0;
            }
            return count;
        });
    }

    @Says(promise = 6, value = "or there is no recipe")
    static void withoutStockAJobIsNotMixed() {
        Twins.dueRefusal(Check.STATE, () -> {
            InkKitchen room = new InkKitchen();
            room.job(0, 0, 0, 10, 300);
            return room;
        }, room -> room.mix(0));
    }

    @Says(promise = 6, value = "or there is no recipe")
    static void aGramShortAJobIsNotMixed() {
        Twins.Maker maker = () -> {
            InkKitchen room = new InkKitchen();
            room.buy(0, 4);
            room.buy(3, 5);
            room.job(0, 0, 0, 10, 300);
            return room;
        };
        Twins.dueRefusal(Check.STATE, maker, room -> room.mix(0));
        InkKitchen room = maker.make();
        room.buy(3, 1);
        Check.due(162, () -> room.mix(0));
    }

    @Says(promise = 6, value = "or there is no recipe")
    static void aGapThatIsOneTooGreatIsNotMixed() {
        Twins.dueRefusal(Check.STATE, () -> {
            InkKitchen room = Rooms.plain(10, 20, 30);
            room.job(11, 22, 27, 10, 5);
            return room;
        }, room -> room.mix(0));
    }

    @Says(promise = 7, value = "Prints a job.")
    static void printUsesUpAndLeavesEachBase() {
        InkKitchen room = Rooms.stocked(1000);
        room.job(50, 50, 20, 100, 30);
        room.mix(0);
        Check.due(0, () -> room.print(0, 33, false));
        Check.due(2, () -> room.state(0));
        int[] tenths = {2, 3, 4, 1};
        for (int i = 0; i < 4; i++) {
            int base = i;
            Check.due(tenths[base] * 6700, () -> room.inTin(0, base));
            Check.due(tenths[base] * 3300, () -> room.where(base, 3));
            Check.due(0, () -> room.where(base, 2));
        }
    }

    @Says(promise = 7, value = "Prints a job.")
    static void printingLosesNothing() {
        InkKitchen room = Rooms.thinned(new int[] {3, 7, 0, 0}, 1, 4);
        for (int i = 0; i < 4; i++) {
            int base = i;
            int sum = 0;
            for (int place = 0; place < 4; place++) {
                sum += room.where(base, place);
            }
            Check.same("all of base " + base, new String[] {"3000", "1000000", "0", "0"}[base],
                    Integer.toString(sum));
        }
    }

    @Says(promise = 7, value = "- `used`: how many grams are used up, 1 to its grams")
    static void printUsesUpOneGramToAllGrams() {
        for (int grams : new int[] {10, 500}) {
            Twins.dueRange(1, grams, Check.ARGUMENT, () -> {
                InkKitchen room = Rooms.plain(10, 20, 30);
                Rooms.mixed(room, grams);
                return room;
            }, (room, used) -> room.print(0, used, true));
        }
    }

    @Says(promise = 7, value = "1 to its grams")
    static void theGramsOfTheOneJobAreTheBound() {
        InkKitchen room = Rooms.plain(0, 0, 0);
        Rooms.mixed(room, 10);
        Rooms.mixed(room, 20);
        Check.dueThrow(Check.ARGUMENT, () -> room.print(0, 11, false));
        Check.dueThrow(Check.ARGUMENT, () -> room.print(1, 21, false));
        Check.due(0, () -> room.print(1, 11, false));
        Check.due(-1, () -> room.print(0, 10, false));
    }

    @Says(promise = 7, value = "- `chip`: whether a chip is kept")
    static void aChipIsKeptIfItIsWanted() {
        InkKitchen room = Rooms.plain(0, 0, 0);
        Rooms.mixed(room, 10);
        Rooms.mixed(room, 10);
        room.print(0, 10, true);
        room.print(1, 10, false);
        Check.due(0, () -> room.chipGap(0, 1));
        Check.dueThrow(Check.STATE, () -> room.chipGap(1, 0));
    }

    @Says(promise = 7, value = "Returns the tin that is left")
    static void printReturnsTheNumberOfTheTin() {
        InkKitchen room = Rooms.plain(0, 0, 0);
        for (int i = 0; i < 3; i++) {
            Rooms.mixed(room, 10);
        }
        Check.due(0, () -> room.print(2, 9, false));
        Check.due(1, () -> room.print(0, 9, false));
        Check.due(2, () -> room.print(1, 1, false));
    }

    @Says(promise = 7, value = "Returns the tin that is left")
    static void eachOfSixteenJobsMayLeaveATin() {
        InkKitchen room = Rooms.plain(0, 0, 0);
        for (int i = 0; i < 16; i++) {
            int job = Rooms.mixed(room, 500);
            Check.due(job, () -> room.print(job, 1, false));
        }
        Check.due(16, room::tins);
    }

    @Says(promise = 7, value = "-1 if none is.")
    static void printReturnsMinusOneIfAllIsUsedUp() {
        InkKitchen room = Rooms.plain(0, 0, 0);
        Rooms.printed(room, 20, 19, false);
        Rooms.mixed(room, 10);
        Rooms.mixed(room, 500);
        Check.due(-1, () -> room.print(1, 10, false));
        Check.due(-1, () -> room.print(2, 500, true));
        Check.due(1, room::tins);
    }

    @Says(promise = 7, value = "Throws `IndexOutOfBoundsException` if there is no such job")
    static void printAsksForAJobThatThereIs() {
        Twins.dueRange(0, 1, Check.INDEX, () -> {
            InkKitchen room = Rooms.plain(0, 0, 0);
            Rooms.mixed(room, 10);
            Rooms.mixed(room, 10);
            return room;
        }, (room, job) -> room.print(job, 1, true));
        Twins.dueRefusal(Check.INDEX, InkKitchen::new, room -> room.print(0, 1, true));
    }

    @Says(promise = 7, value = "Throws `IndexOutOfBoundsException` if there is no such job")
    static void printLooksForTheJobFirst() {
        Twins.dueRefusal(Check.INDEX, Rooms::busy, room -> room.print(4, 0, true),
                room -> room.print(-1, 501, true), room -> room.print(16, -1, false));
    }

    @Says(promise = 7, value = "Throws `IllegalArgumentException` if used is out of range")
    static void printLooksAtWhatIsUsedBeforeItLooksAtTheState() {
        for (int i = 0; i < 4; i++) {
            int job = i;
            Twins.dueRefusal(Check.ARGUMENT, Rooms::busy, room -> room.print(job, 0, true),
                    room -> room.print(job, 21, true), room -> room.print(job, -1, false));
        }
    }

    @Says(promise = 7, value = "Throws `IllegalStateException` if it is not mixed")
    static void anOpenJobIsNotPrinted() {
        Twins.dueRefusal(Check.STATE, Rooms::busy, room -> room.print(3, 1, true),
                room -> room.print(3, 20, true));
    }

    @Says(promise = 7, value = "Throws `IllegalStateException` if it is not mixed")
    static void aPrintedJobIsNotPrintedAgain() {
        Twins.dueRefusal(Check.STATE, Rooms::busy, room -> room.print(0, 10, false),
                room -> room.print(1, 1, true), room -> room.print(1, 20, true));
    }

    @Says(promise = 7, value = "or there would be more than 30 tins")
    static void theThirtyFirstTinIsRefused() {
        Check.dueThrow(Check.STATE, () -> Rooms.withTins(30).print(0, 1, false));
        InkKitchen room = Rooms.withTins(30);
        Rooms.dueThrowAndNoChange(room, Check.STATE, () -> room.print(0, 19, true));
        Check.due(1, () -> room.state(0));
        Check.due(30, room::tins);
    }

    @Says(promise = 7, value = "or there would be more than 30 tins")
    static void withThirtyTinsAJobThatLeavesNoneIsPrinted() {
        InkKitchen room = Rooms.withTins(30);
        Check.due(-1, () -> room.print(0, 20, false));
        Check.due(30, room::tins);
    }

    /** A room with nine jobs of 10 grams and of no gap, of which so many are mixed. */
    private static InkKitchen mixedJobs(int mixed) {
        InkKitchen room = Rooms.plain(0, 0, 0);
        for (int job = 0; job < 9; job++) {
            room.job(0, 0, 0, 10, 0);
        }
        for (int job = 0; job < mixed; job++) {
            room.mix(job);
        }
        return room;
    }
}
