/** Promises 14 to 18, and what "Terms" says of washes, the plate and chips. */
final class WashesPlateChipsTest {
    private WashesPlateChipsTest() {
    }

    @Says("Washing the press from a colour to another one costs their gap")
    static void washingToADarkerColourCostsTheGap() {
        InkKitchen room = Rooms.stocked(1000);
        printPlain(room, 3);
        mixPlain(room, 0);
        dueBest(room, 270, 1);
        dueBest(fromTo(new int[] {50, 50, 50}, new int[] {51, 49, 49}), 3, 1);
    }

    @Says("but twice that, if the sum of the parts of the other one is greater")
    static void washingToABrighterColourCostsTwiceTheGap() {
        InkKitchen room = Rooms.stocked(1000);
        printPlain(room, 0);
        mixPlain(room, 3);
        dueBest(room, 540, 1);
        dueBest(fromTo(new int[] {50, 50, 50}, new int[] {51, 51, 49}), 6, 1);
    }

    @Says("if the sum of the parts of the other one is greater")
    static void washingToAColourOfTheSameSumCostsTheGap() {
        dueBest(fromTo(new int[] {50, 50, 50}, new int[] {51, 49, 50}), 2, 1);
        dueBest(fromTo(new int[] {100, 0, 50}, new int[] {0, 100, 50}), 200, 1);
    }

    @Says("Washing the press from a colour to another one costs their gap")
    static void washingToTheSameColourCostsNothing() {
        dueBest(fromTo(new int[] {50, 50, 50}, new int[] {50, 50, 50}), 0, 1);
    }

    @Says("Washing the press from a colour to another one costs their gap, but twice that")
    static void theDearestWashCostsSixHundred() {
        dueBest(fromTo(new int[] {0, 0, 0}, new int[] {100, 100, 100}), 600, 1);
        dueBest(fromTo(new int[] {100, 100, 100}, new int[] {0, 0, 0}), 300, 1);
    }

    @Says("Before the first run the press is clean: nothing is washed then.")
    static void nothingIsWashedBeforeTheFirstRun() {
        InkKitchen room = Rooms.stocked(1000);
        mixPlain(room, 3);
        dueBest(room, 0, 0);
        mixPlain(room, 0);
        dueBest(room, 270, 0);
    }

    @Says("Before the first run the press is clean: nothing is washed then.")
    static void behindTheFirstRunThePressIsNotClean() {
        InkKitchen room = Rooms.stocked(1000);
        mixPlain(room, 3);
        mixPlain(room, 0);
        room.print(1, 1, false);
        dueBest(room, 540, 0);
    }

    @Says("An order of all mixed jobs costs the washes between runs one behind the other")
    static void openAndPrintedJobsAreInNoOrder() {
        InkKitchen room = Rooms.stocked(1000);
        room.job(0, 0, 0, 10, 0);
        printPlain(room, 2);
        mixPlain(room, 3);
        dueBest(room, 2 * (70 + 10 + 80), 2);
    }

    @Says("that from the colour printed last to the first one included")
    static void theOneColourPrintedLastCounts() {
        InkKitchen room = Rooms.stocked(1000);
        printPlain(room, 0);
        mixPlain(room, 3);
        mixPlain(room, 3);
        room.print(1, 10, false);
        dueBest(room, 0, 2);
    }

    @Says("that from the colour printed last to the first one included")
    static void theColoursAreThoseOfTheInksNotOfTheJobs() {
        InkKitchen room = Rooms.plain(10, 10, 10);
        room.job(10, 10, 10, 10, 300);
        room.job(100, 100, 100, 10, 300);
        room.mix(0);
        room.mix(1);
        dueBest(room, 0, 0);
        room.print(0, 10, false);
        dueBest(room, 0, 1);
    }

    @Says("The best order is that with the least cost")
    static void theBestOfSomeOrders() {
        InkKitchen room = Rooms.stocked(1000);
        for (int base = 0; base < 4; base++) {
            mixPlain(room, base);
        }
        dueBest(room, 470, 3);
        room.print(0, 10, false);
        dueBest(room, 740, 1);
        room.print(3, 10, false);
        dueBest(room, 340, 1);
    }

    @Says("The best order is that with the least cost")
    static void theNearestOneIsNotAlwaysTheFirst() {
        InkKitchen up = mixedIn(new int[][] {{50, 50, 50}, {20, 50, 50}, {60, 50, 50}});
        up.print(0, 10, false);
        // First up and then down is 20 + 40, first down and then up is 30 + 80.
        dueBest(up, 60, 2);
        InkKitchen far = mixedIn(new int[][] {{50, 50, 50}, {45, 50, 50}, {60, 50, 50}});
        far.print(0, 10, false);
        // First far up and then down is 20 + 15, first a little down and then up 5 + 30: the same.
        dueBest(far, 35, 1);
        InkKitchen farther = mixedIn(new int[][] {{50, 50, 50}, {44, 50, 50}, {60, 50, 50}});
        farther.print(0, 10, false);
        // 20 + 16 to the farther one first, 6 + 32 to the nearer one first.
        dueBest(farther, 36, 2);
    }

    @Says("An order of all mixed jobs")
    static void eachMixedJobIsInTheOrderOnce() {
        InkKitchen room = mixedIn(new int[][] {{10, 20, 0}, {0, 100, 60}, {20, 50, 20},
            {60, 50, 20}});
        room.print(0, 10, false);
        // 3 2 1 costs 200 + 40 + 220; 2 3 2 1, with job 2 twice, would cost 120 + 80 + 40 + 220,
        // which is as much, and 2 1 3 costs 490.
        dueBest(room, 460, 3);
    }

    @Says("An order of all mixed jobs")
    static void eachOfEightMixedJobsIsInTheOrder() {
        for (int white = 0; white < 8; white++) {
            InkKitchen room = blackButOne(8, white);
            int first = white;
            Check.due(300, room::washes);
            Check.due(first, room::firstRun);
        }
    }

    @Says({"washes between runs in the order that washes least, found in two ways",
        "An order of all mixed jobs"})
    static void eachOfSevenMixedJobsIsInTheOrderBothWays() {
        for (int white = 0; white < 7; white++) {
            dueBest(blackButOne(7, white), 300, white);
        }
    }

    @Says({"washes between runs in the order that washes least, found in two ways",
        "An order of all mixed jobs"})
    static void behindBlackTheWhiteOneOfSevenIsTheLastBothWays() {
        for (int white = 0; white < 7; white++) {
            InkKitchen room = blackButOne(7, white);
            int black = white == 0 ? 1 : 0;
            room.print(black, 10, false);
            room.job(0, 0, 0, 10, 0);
            room.mix(7);
            dueBest(room, 600, white == 0 || white == 1 ? 2 : 1);
        }
    }

    @Says("of several the one with the lower job where they differ first")
    static void ofTheSameCostTheLowerJobIsFirst() {
        InkKitchen room = Rooms.stocked(1000);
        mixPlain(room, 2);
        mixPlain(room, 1);
        dueBest(room, 180, 0);
        InkKitchen between = Rooms.stocked(1000);
        between.job(60, 55, 15, 10, 0);
        between.mix(0);
        between.print(0, 10, false);
        mixPlain(between, 2);
        mixPlain(between, 1);
        // 90 to the one or to the other, of the same sum, and 180 between them.
        dueBest(between, 270, 1);
    }

    @Says("of several the one with the lower job where they differ first")
    static void ofEightOfTheSameColourTheLowestIsFirst() {
        InkKitchen room = Rooms.plain(0, 0, 0);
        for (int i = 0; i < 10; i++) {
            room.job(0, 0, 0, 10, 0);
        }
        for (int job = 9; job > 1; job--) {
            room.mix(job);
            int lowest = job;
            Check.due(lowest, room::firstRun);
        }
        room.print(2, 10, false);
        Check.due(3, room::firstRun);
    }

    @Says({"The plate wears by 1 with each printing", "plates that wear"})
    static void thePlateWearsByOneWithEachPrinting() {
        InkKitchen room = Rooms.plain(0, 0, 0);
        for (int i = 1; i < 10; i++) {
            Rooms.printed(room, 10, 1, false);
            Check.due(i, room::wear);
        }
    }

    @Says("and by 1 more for each 100 grams that are used up")
    static void thePlateWearsByOneMoreForEachHundredGrams() {
        int[] used = {1, 99, 100, 101, 199, 200, 299, 300, 399, 400, 499, 500};
        int[] wear = {1, 1, 2, 2, 2, 3, 3, 4, 4, 5, 5, 6};
        for (int i = 0; i < used.length; i++) {
            InkKitchen room = Rooms.plain(0, 0, 0);
            Rooms.printed(room, 500, used[i], false);
            Check.due(wear[i], room::wear);
        }
    }

    @Says("and by 1 more for each 100 grams that are used up")
    static void gramsBelowAHundredAreNotKeptForTheNextPrinting() {
        InkKitchen room = Rooms.plain(0, 0, 0);
        Rooms.printed(room, 500, 99, false);
        Rooms.printed(room, 500, 99, false);
        Check.due(2, room::wear);
    }

    @Says("it is changed behind a printing by which it has come to 10 or more: its wear is 0 then")
    static void aPlateThatComesToNineIsNotChanged() {
        Check.due(9, worn(500, 299)::wear);
        Check.due(9, worn(400, 399)::wear);
    }

    @Says("it is changed behind a printing by which it has come to 10 or more: its wear is 0 then")
    static void aPlateThatComesToTenIsChanged() {
        Check.due(0, worn(500, 300)::wear);
        Check.due(0, worn(400, 499)::wear);
        Check.due(0, worn(500, 299, 1)::wear);
    }

    @Says("it is changed behind a printing by which it has come to 10 or more: its wear is 0 then")
    static void aPlateThatComesToMoreThanTenIsChangedAndKeepsNothing() {
        Check.due(0, worn(500, 400)::wear);
        Check.due(0, worn(500, 500)::wear);
        Check.due(0, worn(500, 299, 100)::wear);
        Check.due(0, worn(500, 299, 500)::wear);
    }

    @Says("its wear is 0 then")
    static void aNewPlateWearsFromNothing() {
        Check.due(1, worn(500, 500, 1)::wear);
        Check.due(9, worn(500, 300, 500, 299)::wear);
        Check.due(0, worn(500, 300, 500, 300)::wear);
    }

    @Says("A chip is kept of the colour of a printed job, if the customer wants one")
    static void thereIsAChipOfAPrintedJobIfItIsWanted() {
        InkKitchen room = Rooms.plain(0, 0, 0);
        Rooms.mixed(room, 10);
        Rooms.mixed(room, 10);
        Check.dueThrow(Check.STATE, () -> room.chipGap(0, 0));
        room.print(0, 10, true);
        room.print(1, 10, false);
        Check.due(0, () -> room.chipGap(0, 0));
        Check.dueThrow(Check.STATE, () -> room.chipGap(1, 1));
    }

    @Says("A chip is kept of the colour of a printed job")
    static void aChipIsOfTheColourOfTheInkNotOfTheJob() {
        InkKitchen room = Rooms.plain(10, 10, 10);
        room.job(90, 90, 90, 10, 300);
        room.mix(0);
        room.print(0, 10, true);
        Check.due(0, () -> room.chipGap(0, 0));
        room.pass(10);
        Check.due(3, () -> room.chipGap(0, 0));
    }

    @Says({"it fades: with each 10 days that have gone by since",
        "chips of customers that fade."})
    static void aChipFadesWithTheTenthDayNotWithTheNinth() {
        InkKitchen room = Rooms.plain(50, 60, 70);
        Rooms.printed(room, 10, 1, true);
        Check.due(0, () -> room.chipGap(0, 0));
        room.pass(9);
        Check.due(0, () -> room.chipGap(0, 0));
        room.pass(1);
        Check.due(3, () -> room.chipGap(0, 0));
        room.pass(9);
        Check.due(3, () -> room.chipGap(0, 0));
        room.pass(1);
        Check.due(6, () -> room.chipGap(0, 0));
    }

    @Says("that have gone by since")
    static void daysBeforeThePrintingFadeNoChip() {
        InkKitchen room = Rooms.plain(10, 10, 10);
        Rooms.mixed(room, 10);
        Rooms.mixed(room, 10);
        room.pass(9);
        room.print(0, 1, true);
        room.pass(1);
        Check.due(0, () -> room.chipGap(0, 0));
        room.pass(14);
        room.print(1, 1, true);
        room.pass(15);
        Check.due(9, () -> room.chipGap(0, 1));
        Check.due(3, () -> room.chipGap(1, 0));
    }

    @Says("each part that is below 100 is 1 more")
    static void aPartOf99BecomesAHundredAndStays() {
        InkKitchen room = Rooms.plain(99, 50, 50);
        Rooms.printed(room, 10, 1, true);
        room.pass(10);
        Check.due(3, () -> room.chipGap(0, 0));
        room.pass(10);
        Check.due(1 + 2 + 2, () -> room.chipGap(0, 0));
    }

    @Says("each part that is below 100 is 1 more")
    static void aPartOfAHundredStays() {
        InkKitchen room = Rooms.plain(100, 100, 100);
        Rooms.printed(room, 10, 1, true);
        room.pass(100);
        Check.due(0, () -> room.chipGap(0, 0));
        InkKitchen one = Rooms.plain(0, 100, 0);
        Rooms.printed(one, 10, 1, true);
        one.pass(20);
        Check.due(2 + 2, () -> one.chipGap(0, 0));
    }

    @Says("each part that is below 100 is 1 more")
    static void eachPartComesToAHundredByItself() {
        InkKitchen room = Rooms.plain(100, 99, 90);
        Rooms.printed(room, 10, 1, true);
        room.pass(10);
        Check.due(2, () -> room.chipGap(0, 0));
        room.pass(80);
        Check.due(1 + 9, () -> room.chipGap(0, 0));
        room.pass(10);
        Check.due(1 + 10, () -> room.chipGap(0, 0));
        room.pass(10);
        Check.due(1 + 10, () -> room.chipGap(0, 0));
    }

    @Says("each part that is below 100 is 1 more")
    static void onTheLastDayTheChipOfTheFirstIsWhite() {
        InkKitchen room = Rooms.plain(0, 1, 99);
        Rooms.printed(room, 10, 1, true);
        for (int i = 0; i < 99; i++) {
            room.pass(100);
        }
        room.pass(99);
        Check.due(100 + 99 + 1, () -> room.chipGap(0, 0));
        Check.due(10000, () -> room.pass(1));
        Check.due(100 + 99 + 1, () -> room.chipGap(0, 0));
    }

    @Says(promise = 14, value = "0 without mixed jobs")
    static void withoutMixedJobsTheCostIsNothing() {
        InkKitchen room = Rooms.stocked(1000);
        Check.due(0, room::washes);
        room.job(0, 0, 0, 10, 0);
        Check.due(0, room::washes);
        Rooms.printed(room, 10, 10, false);
        Check.due(0, room::washes);
    }

    @Says(promise = 14, value = "Returns the cost of the best order")
    static void theBestOrderOfEightMixedJobs() {
        InkKitchen room = shadesOfGrey(8);
        // From the brightest, job 4 with 7 tenths of white, down to the one without white.
        Check.due(189, room::washes);
        Check.due(4, room::firstRun);
    }

    @Says(promise = 14, value = "Returns the cost of the best order")
    static void theBestOrderOfEightMixedJobsBehindAPrinting() {
        InkKitchen room = shadesOfGrey(8);
        room.print(0, 10, false);
        room.job(27, 27, 27, 10, 0);
        room.mix(8);
        // From 3 tenths of white up to seven, 216, and down to none, 189, is less than down to
        // none, 81, and up to seven, 378. Of the jobs that can be printed on the way up, those of
        // 3 to 7 tenths, job 2 is the lowest.
        Check.due(216 + 189, room::washes);
        Check.due(2, room::firstRun);
    }

    @Says(promise = 14, value = "Returns the cost of the best order")
    static void askingForTheWashesWashesNothing() {
        InkKitchen room = shadesOfGrey(7);
        String before = Rooms.told(room);
        Check.same("what is told again", before, Rooms.told(room));
    }

    @Says(promise = 15, value = "Returns the same, told by trying all orders.")
    static void sevenMixedJobsCostTheSameByAll() {
        InkKitchen room = shadesOfGrey(7);
        dueBest(room, 189, 4);
        room.job(9, 9, 9, 10, 0);
        room.print(4, 10, false);
        room.mix(7);
        // From the 7 tenths that were printed down, with the 5 tenths of job 2 first.
        dueBest(room, 189, 2);
    }

    @Says(promise = 15, value = "Returns the same, told by trying all orders.")
    static void withoutMixedJobsTheCostByAllIsNothing() {
        InkKitchen room = Rooms.stocked(1000);
        Check.due(0, room::washesByAll);
        room.job(0, 0, 0, 10, 0);
        Check.due(0, room::washesByAll);
        Rooms.printed(room, 10, 10, false);
        Check.due(0, room::washesByAll);
    }

    @Says(promise = 15, value = "Throws `IllegalStateException` if there are more than 7 mixed"
        + " jobs")
    static void eightMixedJobsAreTooManyForAllOrders() {
        Twins.dueRefusal(Check.STATE, () -> shadesOfGrey(8), InkKitchen::washesByAll);
        InkKitchen room = shadesOfGrey(8);
        Check.dueThrow(Check.STATE, room::washesByAll);
        Check.due(189, room::washes);
        Check.due(4, room::firstRun);
    }

    @Says(promise = 15, value = "Throws `IllegalStateException` if there are more than 7 mixed"
        + " jobs")
    static void jobsThatAreNotMixedAreNotCounted() {
        InkKitchen room = shadesOfGrey(8);
        room.print(4, 10, false);
        room.job(0, 0, 0, 10, 0);
        Check.due(189, room::washesByAll);
        room.mix(8);
        Check.dueThrow(Check.STATE, room::washesByAll);
    }

    @Says(promise = 16, value = "-1 without mixed jobs")
    static void withoutMixedJobsThereIsNoFirstRun() {
        InkKitchen room = Rooms.stocked(1000);
        Check.due(-1, room::firstRun);
        room.job(0, 0, 0, 10, 0);
        Check.due(-1, room::firstRun);
        Rooms.printed(room, 10, 10, false);
        Check.due(-1, room::firstRun);
    }

    @Says(promise = 16, value = "Returns the first job of the best order")
    static void theFirstRunIsTheNumberOfTheJob() {
        InkKitchen room = Rooms.stocked(1000);
        room.job(0, 0, 0, 10, 0);
        printPlain(room, 0);
        mixPlain(room, 3);
        mixPlain(room, 0);
        dueBest(room, 540, 3);
    }

    @Says(promise = 16, value = "Returns the first job of the best order")
    static void theLastOfSixteenJobsMayBeTheFirstRun() {
        InkKitchen room = Rooms.plain(0, 0, 0);
        for (int i = 0; i < 16; i++) {
            room.job(0, 0, 0, 10, 0);
        }
        room.mix(15);
        dueBest(room, 0, 15);
    }

    @Says(promise = 17, value = "Returns the wear of the plate.")
    static void withoutAPrintingThePlateIsNotWorn() {
        InkKitchen room = Rooms.plain(0, 0, 0);
        Check.due(0, room::wear);
        Rooms.mixed(room, 500);
        Check.due(0, room::wear);
    }

    @Says(promise = 17, value = "Returns the wear of the plate.")
    static void neitherDaysNorRefusedPrintingsWear() {
        InkKitchen room = Rooms.plain(0, 0, 0);
        Rooms.printed(room, 10, 1, false);
        room.pass(100);
        Check.due(1, room::wear);
        Check.dueThrow(Check.STATE, () -> room.print(0, 1, false));
        Check.dueThrow(Check.ARGUMENT, () -> room.print(0, 11, false));
        Check.dueThrow(Check.INDEX, () -> room.print(1, 1, false));
        Check.due(1, room::wear);
    }

    @Says(promise = 18, value = "Returns the gap between the chip of a job, as it is today")
    static void theChipFadesAndTheOtherColourDoesNot() {
        InkKitchen room = Rooms.stocked(1000);
        room.job(50, 50, 20, 50, 30);
        room.mix(0);
        room.print(0, 50, true);
        mixPlain(room, 0);
        Check.due(0, () -> room.chipGap(0, 0));
        Check.due(47 + 52 + 19, () -> room.chipGap(0, 1));
        room.print(1, 10, true);
        Check.due(47 + 52 + 19, () -> room.chipGap(0, 1));
        room.pass(20);
        Check.due(45 + 50 + 17, () -> room.chipGap(1, 0));
        Check.due(49 + 54 + 21, () -> room.chipGap(0, 1));
    }

    @Says(promise = 18, value = "Returns the gap between the chip of a job")
    static void theGapOfAChipGoesFromNothingTo300() {
        InkKitchen room = new InkKitchen();
        room.setBase(1, 100, 100, 100);
        room.buy(0, 10);
        room.buy(1, 10);
        room.job(0, 0, 0, 10, 0);
        room.job(100, 100, 100, 10, 0);
        room.mix(0);
        room.mix(1);
        room.print(0, 10, true);
        room.print(1, 10, true);
        Check.due(0, () -> room.chipGap(0, 0));
        Check.due(300, () -> room.chipGap(0, 1));
        Check.due(300, () -> room.chipGap(1, 0));
        room.pass(10);
        Check.due(297, () -> room.chipGap(0, 1));
        Check.due(300, () -> room.chipGap(1, 0));
    }

    @Says(promise = 18, value = "the colour of a job that is mixed or printed, as its ink was"
        + " mixed")
    static void theOtherOneMayBeMixedOrPrintedUpToTheLastGram() {
        InkKitchen room = Rooms.busy();
        int first = room.chipGap(0, 0);
        Check.due(3, () -> first);
        int toMixed = room.chipGap(0, 2);
        room.print(2, 20, false);
        Check.due(toMixed, () -> room.chipGap(0, 2));
    }

    @Says(promise = 18, value = "Throws `IndexOutOfBoundsException` if there is no such job")
    static void chipGapAsksForAJobThatThereIs() {
        Twins.dueRange(0, 1, Check.INDEX, WashesPlateChipsTest::twoChips,
                (room, job) -> room.chipGap(job, 0));
        Twins.dueRefusal(Check.INDEX, InkKitchen::new, room -> room.chipGap(0, 0));
    }

    @Says(promise = 18, value = "or no such other one")
    static void chipGapAsksForAnotherOneThatThereIs() {
        Twins.dueRange(0, 1, Check.INDEX, WashesPlateChipsTest::twoChips,
                (room, other) -> room.chipGap(0, other));
    }

    @Says(promise = 18, value = "Throws `IndexOutOfBoundsException`")
    static void chipGapLooksForBothJobsFirst() {
        Twins.dueRefusal(Check.INDEX, Rooms::busy, room -> room.chipGap(4, 3),
                room -> room.chipGap(-1, 3), room -> room.chipGap(1, 4),
                room -> room.chipGap(2, -1), room -> room.chipGap(3, 4),
                room -> room.chipGap(4, 4));
    }

    @Says(promise = 18, value = "Throws `IllegalStateException` if there is no chip of the job")
    static void withoutAChipThereIsNoGap() {
        // Printed without a chip, mixed, and open.
        Twins.dueRefusal(Check.STATE, Rooms::busy, room -> room.chipGap(1, 0),
                room -> room.chipGap(2, 0), room -> room.chipGap(3, 0));
    }

    @Says(promise = 18, value = "or the other one is open")
    static void anOpenJobHasNoColourYet() {
        Twins.dueRefusal(Check.STATE, Rooms::busy, room -> room.chipGap(0, 3));
        InkKitchen room = Rooms.busy();
        Check.dueThrow(Check.STATE, () -> room.chipGap(0, 3));
        room.mix(3);
        int gap = room.chipGap(0, 3);
        Check.same("whether the gap is told", "true", Boolean.toString(gap > 0));
    }

    /** The best order as it is told by all three calls. */
    private static void dueBest(InkKitchen room, int cost, int first) {
        Check.due(cost, room::washes);
        Check.due(cost, room::washesByAll);
        Check.due(first, room::firstRun);
    }

    /** Takes and mixes a job of the colour that a base has at first. Returns its number. */
    private static int mixPlain(InkKitchen room, int base) {
        int[][] first = {{0, 0, 0}, {100, 10, 20}, {20, 100, 10}, {90, 90, 90}};
        int job = room.job(first[base][0], first[base][1], first[base][2], 10, 0);
        room.mix(job);
        return job;
    }

    private static void printPlain(InkKitchen room, int base) {
        room.print(mixPlain(room, base), 10, false);
    }

    /** A room in which the one colour was printed last and job 1 of the other one is mixed. */
    private static InkKitchen fromTo(int[] from, int[] to) {
        InkKitchen room = mixedIn(new int[][] {from, to});
        room.print(0, 10, false);
        return room;
    }

    /** A room with a mixed job of each of these colours, which are those of the bases. */
    private static InkKitchen mixedIn(int[][] colours) {
        InkKitchen room = new InkKitchen();
        for (int base = 0; base < colours.length; base++) {
            room.setBase(base, colours[base][0], colours[base][1], colours[base][2]);
        }
        for (int base = 0; base < colours.length; base++) {
            // There is nothing else in stock, so that it is this base alone.
            room.buy(base, 10);
            Rooms.mixed(room, 10);
        }
        return room;
    }

    /** A room with some mixed jobs, all of them black but one that is white. */
    private static InkKitchen blackButOne(int jobs, int white) {
        InkKitchen room = Rooms.stocked(1000);
        room.setBase(3, 100, 100, 100);
        for (int i = 0; i < jobs; i++) {
            int part = i == white ? 100 : 0;
            room.job(part, part, part, 10, 0);
            room.mix(i);
        }
        return room;
    }

    /** A room with some mixed jobs, each with another of 0 to 7 tenths of white. */
    private static InkKitchen shadesOfGrey(int jobs) {
        InkKitchen room = Rooms.stocked(1000);
        for (int i = 0; i < jobs; i++) {
            int white = 9 * ((5 * i + 3) % 8);
            room.job(white, white, white, 10, 0);
            room.mix(i);
        }
        return room;
    }

    /** A room in which jobs were printed one behind the other with so many grams. */
    private static InkKitchen worn(int... used) {
        InkKitchen room = Rooms.plain(0, 0, 0);
        for (int grams : used) {
            Rooms.printed(room, 500, grams, false);
        }
        return room;
    }

    private static InkKitchen twoChips() {
        InkKitchen room = Rooms.plain(10, 20, 30);
        Rooms.printed(room, 10, 10, true);
        Rooms.printed(room, 10, 9, true);
        return room;
    }
}
