/**
 * "What it is" and "Terms": what their sentences say and the cases at the edge that they name, but
 * for those of recipes, washes, the plate and chips.
 */
final class TermsTest {
    private TermsTest() {
    }

    @Says("An object is used for at most 512 calls after it has been made")
    static void theLastOf512CallsIsAnsweredLikeTheFirst() {
        InkKitchen room = Rooms.stocked(1000);
        room.job(50, 50, 20, 100, 30);
        for (int call = 6; call < 512; call++) {
            Check.due(6, () -> room.recipe(0, 6));
        }
        Check.due(6, () -> room.mix(0));
    }

    @Says("Colours have three parts, each 0 to 100.")
    static void anInkMayHaveTheLeastAndTheGreatestParts() {
        int[][] colours = {{0, 0, 0}, {100, 100, 100}, {100, 0, 0}, {0, 100, 0}, {0, 0, 100}};
        for (int[] colour : colours) {
            InkKitchen room = Rooms.plain(colour[0], colour[1], colour[2]);
            Rooms.printed(room, 10, 1, false);
            dueShade(room, 0, colour[0], colour[1], colour[2]);
        }
    }

    @Says("The gap of two colours is the sum of how far their parts are apart.")
    static void theGapOfTheSameColourIsNothing() {
        Check.due(0, () -> gap(Rooms.plain(50, 50, 50), 50, 50, 50));
        Check.due(0, () -> gap(Rooms.plain(0, 100, 0), 0, 100, 0));
    }

    @Says("The gap of two colours is the sum of how far their parts are apart.")
    static void theGreatestGapIs300() {
        Check.due(300, () -> gap(Rooms.plain(0, 0, 0), 100, 100, 100));
        Check.due(300, () -> gap(Rooms.plain(100, 100, 100), 0, 0, 0));
        Check.due(300, () -> gap(Rooms.plain(100, 0, 100), 0, 100, 0));
    }

    @Says("The gap of two colours is the sum of how far their parts are apart.")
    static void eachPartCountsOneByOneUpAndDown() {
        int[][] colours = {{51, 50, 50}, {49, 50, 50}, {50, 51, 50}, {50, 49, 50}, {50, 50, 51},
            {50, 50, 49}};
        for (int[] colour : colours) {
            Check.due(1, () -> gap(Rooms.plain(50, 50, 50), colour[0], colour[1], colour[2]));
        }
        Check.due(2, () -> gap(Rooms.plain(50, 50, 50), 51, 49, 50));
        Check.due(3, () -> gap(Rooms.plain(50, 50, 50), 49, 51, 49));
    }

    @Says("There are four bases, 0 to 3, with the colours (0, 0, 0), (100, 10, 20), (20, 100, 10)"
        + " and (90, 90, 90) at first.")
    static void theFourBasesHaveTheirColoursAtFirst() {
        int[][] first = {{0, 0, 0}, {100, 10, 20}, {20, 100, 10}, {90, 90, 90}};
        for (int base = 0; base < 4; base++) {
            InkKitchen room = new InkKitchen();
            room.buy(base, 10);
            Rooms.printed(room, 10, 9, false);
            dueShade(room, 0, first[base][0], first[base][1], first[base][2]);
        }
    }

    @Says("There are four bases, 0 to 3,")
    static void thereIsNoBaseBesideTheFour() {
        for (int wrong : new int[] {-1, 4}) {
            Twins.dueRefusal(Check.ARGUMENT, Rooms::waiting,
                    room -> Rooms.setBase(room, wrong, 1, 1, 1).answer(),
                    room -> room.buy(wrong, 1), room -> room.where(wrong, 0));
            Twins.dueRefusal(Check.ARGUMENT, Rooms::busy, room -> room.inTin(0, wrong));
        }
    }

    @Says("All weights are kept in milligrams of each base.")
    static void aGramIsAThousandMilligrams() {
        InkKitchen room = new InkKitchen();
        Check.due(1000, () -> room.buy(0, 1));
        room.buy(0, 9);
        Rooms.printed(room, 10, 1, false);
        Check.due(1000, () -> room.where(0, 3));
        Check.due(9000, () -> room.inTin(0, 0));
    }

    @Says("All weights are kept in milligrams of each base.")
    static void asLittleAsAMilligramIsKept() {
        InkKitchen room = Rooms.thinned(new int[] {1, 9, 0, 0}, 1, 3);
        Check.due(1, () -> room.inTin(2, 0));
        Check.due(999, () -> room.inTin(2, 1));
        Check.due(999, () -> room.where(0, 3));
        room.job(0, 0, 0, 10, 300);
        room.mix(3);
        Check.due(1, () -> room.where(0, 2));
        Check.due(9999, () -> room.where(1, 2));
    }

    @Says("An ink is milligrams of the bases; its colour is, part by part, the sum over the bases of"
        + " its milligrams times the part of the base")
    static void eachBaseCountsInEachPartByItsMilligrams() {
        int[][] colours = {{10, 80, 0}, {20, 60, 100}, {30, 40, 50}, {40, 20, 7}};
        InkKitchen room = new InkKitchen();
        for (int base = 0; base < 4; base++) {
            room.setBase(base, colours[base][0], colours[base][1], colours[base][2]);
            // No more of it, so that one, two, three and four tenths are the only recipe.
            room.buy(base, base + 1);
        }
        Rooms.printed(room, 10, 5, false);
        // 300, 400 and 378 tenths.
        dueShade(room, 0, 30, 40, 37);
    }

    @Says("divided by all its milligrams, rounded down.")
    static void aPartThatComesOutWholeStays() {
        InkKitchen room = mixedOfTwo(new int[] {10, 100, 0}, 5, new int[] {20, 0, 100}, 5);
        dueShade(room, 0, 15, 50, 50);
    }

    @Says("divided by all its milligrams, rounded down.")
    static void aPartJustBelowTheNextIsRoundedDown() {
        // 99.9, 0.9 and 10.9.
        InkKitchen room = mixedOfTwo(new int[] {100, 1, 11}, 9, new int[] {99, 0, 10}, 1);
        dueShade(room, 0, 99, 0, 10);
    }

    @Says("divided by all its milligrams, rounded down.")
    static void aPartJustAboveIsRoundedDown() {
        // 99.1, 0.1 and 10.1.
        InkKitchen room = mixedOfTwo(new int[] {100, 1, 11}, 1, new int[] {99, 0, 10}, 9);
        dueShade(room, 0, 99, 0, 10);
    }

    @Says("divided by all its milligrams, rounded down.")
    static void aSingleMilligramRoundsAColourDown() {
        InkKitchen room = Rooms.thinned(new int[] {1, 9, 0, 0}, 1, 3);
        // Of 1000 mg is one black: 99.9, 9.99 and 19.98.
        dueShade(room, 2, 99, 9, 19);
        // And so it is of 10000 mg.
        room.job(100, 10, 20, 10, 300);
        Check.due(1, () -> room.recipe(3, 4));
        Check.due(3, () -> room.mix(3));
    }

    @Says("There is a stock of each base")
    static void eachBaseHasAStockOfItsOwn() {
        InkKitchen room = new InkKitchen();
        for (int i = 0; i < 4; i++) {
            int base = i;
            Check.due(0, () -> room.where(base, 0));
            Check.due(1000 * (base + 1), () -> room.buy(base, base + 1));
        }
        for (int i = 0; i < 4; i++) {
            int base = i;
            Check.due(1000 * (base + 1), () -> room.where(base, 0));
        }
    }

    @Says("there are tins of left inks, numbered from 0 as they are left")
    static void tinsAreNumberedAsTheyAreLeftNotAsTheJobsAre() {
        InkKitchen room = Rooms.plain(0, 0, 0);
        for (int i = 0; i < 4; i++) {
            Rooms.mixed(room, 20);
        }
        Check.dueThrow(Check.INDEX, () -> room.inTin(0, 0));
        Check.due(0, () -> room.print(2, 1, false));
        Check.due(-1, () -> room.print(0, 20, false));
        Check.due(1, () -> room.print(3, 19, false));
        Check.due(2, () -> room.print(1, 10, false));
        Check.due(19000, () -> room.inTin(0, 0));
        Check.due(1000, () -> room.inTin(1, 0));
        Check.due(10000, () -> room.inTin(2, 0));
        Check.dueThrow(Check.INDEX, () -> room.inTin(3, 0));
    }

    @Says("at most 30")
    static void theLastOfThirtyTins() {
        InkKitchen room = Rooms.withTins(29);
        Check.due(29, () -> room.print(0, 1, false));
        Check.due(30, room::tins);
        Check.due(19000, () -> room.inTin(29, 0));
        Check.due(19000, () -> room.where(0, 1));
        Check.dueThrow(Check.INDEX, () -> room.inTin(30, 0));
        room.job(0, 0, 0, 10, 0);
        Check.due(10, () -> room.recipe(1, 4));
        Check.due(29, () -> room.recipe(1, 5));
    }

    @Says("a tin may be empty")
    static void anEmptyTinKeepsItsNumber() {
        InkKitchen room = Rooms.plain(0, 0, 0);
        Rooms.printed(room, 20, 10, false);
        Rooms.mixed(room, 10);
        Check.due(1, room::tins);
        for (int i = 0; i < 4; i++) {
            int base = i;
            Check.due(0, () -> room.inTin(0, base));
        }
        Check.due(1, () -> room.print(1, 1, false));
        Check.due(0, () -> room.inTin(0, 0));
        Check.due(9000, () -> room.inTin(1, 0));
    }

    @Says("Taking g grams out of an ink of w milligrams takes of each base its milligrams times"
        + " 1000 g, divided by w")
    static void whereNothingIsRoundedDownNothingIsMissing() {
        InkKitchen room = Rooms.stocked(1000);
        room.job(50, 50, 20, 100, 30);
        room.mix(0);
        Check.due(0, () -> room.print(0, 33, false));
        int[] tenths = {2, 3, 4, 1};
        for (int i = 0; i < 4; i++) {
            int base = i;
            Check.due(tenths[base] * 6700, () -> room.inTin(0, base));
            Check.due(tenths[base] * 3300, () -> room.where(base, 3));
        }
    }

    @Says("Taking g grams out of an ink of w milligrams")
    static void takingAllTakesEachMilligram() {
        InkKitchen room = Rooms.thinned(new int[] {1, 2, 3, 4}, 3, 3);
        dueTin(room, 2, 1, 2, 3, 994);
        room.job(0, 0, 0, 10, 300);
        room.mix(3);
        dueTin(room, 2, 0, 0, 0, 0);
        Check.due(-1, () -> room.print(3, 10, false));
        for (int i = 0; i < 3; i++) {
            int base = i;
            Check.due(0, () -> room.where(base, 2));
        }
    }

    @Says("what is missing to 1000 g is taken milligram by milligram from the bases with the"
        + " greatest rests by which they were rounded down")
    static void oneMissingMilligramComesFromTheGreatestRest() {
        // Of 3 and 9997 mg are 2.7 and 8997.3 taken, so that the 3 mg go whole.
        dueTin(Rooms.thinned(new int[] {3, 7, 0, 0}, 1, 4), 3, 0, 1000, 0, 0);
        dueTin(Rooms.thinned(new int[] {7, 3, 0, 0}, 0, 4), 3, 1000, 0, 0, 0);
        // Of 7 and 9993 mg are 6.3 and 8993.7 taken.
        dueTin(Rooms.thinned(new int[] {7, 3, 0, 0}, 1, 4), 3, 1, 999, 0, 0);
        dueTin(Rooms.thinned(new int[] {0, 0, 7, 3}, 3, 4), 3, 0, 0, 1, 999);
    }

    @Says("what is missing to 1000 g is taken milligram by milligram from the bases with the"
        + " greatest rests by which they were rounded down")
    static void twoMissingMilligramsComeFromTheTwoGreatestRests() {
        // Of 3, 4 and 9993 mg are 2.7, 3.6 and 8993.7 taken.
        dueTin(Rooms.thinned(new int[] {3, 4, 3, 0}, 2, 4), 3, 0, 1, 999, 0);
        // Of 4, 9993 and 3 mg are 3.6, 8993.7 and 2.7 taken.
        dueTin(Rooms.thinned(new int[] {0, 4, 3, 3}, 2, 4), 3, 0, 1, 999, 0);
    }

    @Says("what is missing to 1000 g is taken milligram by milligram from the bases with the"
        + " greatest rests by which they were rounded down")
    static void threeMissingMilligramsComeFromAllButTheLeastRest() {
        // Of 2, 3, 4 and 9991 mg are 1.8, 2.7, 3.6 and 8991.9 taken.
        dueTin(Rooms.thinned(new int[] {2, 3, 4, 1}, 3, 4), 3, 0, 0, 1, 999);
    }

    @Says("of the same rest from the lower base")
    static void ofTheSameRestTheLowerBaseGivesMore() {
        // Of 5 and 9995 mg are 4.5 and 8995.5 taken.
        dueTin(Rooms.thinned(new int[] {5, 5, 0, 0}, 1, 4), 3, 0, 1000, 0, 0);
        dueTin(Rooms.thinned(new int[] {5, 5, 0, 0}, 0, 4), 3, 999, 1, 0, 0);
        dueTin(Rooms.thinned(new int[] {0, 5, 5, 0}, 2, 4), 3, 0, 0, 1000, 0);
        dueTin(Rooms.thinned(new int[] {0, 5, 5, 0}, 1, 4), 3, 0, 999, 1, 0);
        dueTin(Rooms.thinned(new int[] {0, 0, 5, 5}, 3, 4), 3, 0, 0, 0, 1000);
        dueTin(Rooms.thinned(new int[] {0, 0, 5, 5}, 2, 4), 3, 0, 0, 999, 1);
    }

    @Says({"divided by w, rounded down;", "of the same rest from the lower base"})
    static void behindAGreaterRestTheLowerBasesOfTheSameRestGiveMore() {
        // Of 4, 4 and 9992 mg are 3.6, 3.6 and 8992.8 taken.
        dueTin(Rooms.thinned(new int[] {4, 4, 2, 0}, 2, 4), 3, 0, 1, 999, 0);
        // Of 3, 3, 3 and 9991 mg are 2.7, 2.7, 2.7 and 8991.9 taken.
        dueTin(Rooms.thinned(new int[] {3, 3, 3, 1}, 3, 4), 3, 0, 0, 1, 999);
        // Of 4, 4, 1 and 9991 mg are 3.6, 3.6, 0.9 and 8991.9 taken.
        dueTin(Rooms.thinned(new int[] {4, 4, 1, 1}, 3, 4), 3, 0, 1, 0, 999);
    }

    @Says("Jobs are numbered from 0, at most 16")
    static void theFirstAndTheLastOfSixteenJobs() {
        InkKitchen room = new InkKitchen();
        for (int i = 0; i < 16; i++) {
            Check.due(i, () -> room.job(1, 2, 3, 10, 4));
        }
        Check.dueThrow(Check.STATE, () -> room.job(1, 2, 3, 10, 4));
        Check.due(0, () -> room.state(15));
        Check.dueThrow(Check.INDEX, () -> room.state(16));
    }

    @Says("Jobs are numbered from 0, at most 16")
    static void theLastOfSixteenJobsIsMixedAndPrinted() {
        InkKitchen room = Rooms.plain(10, 20, 30);
        for (int i = 0; i < 16; i++) {
            room.job(10, 20, 30, 10, 0);
        }
        Check.due(10, () -> room.recipe(15, 0));
        Check.due(0, () -> room.mix(15));
        Check.due(10000, () -> room.where(0, 2));
        Check.due(15, room::firstRun);
        Check.due(0, () -> room.print(15, 4, true));
        Check.due(0, () -> room.where(0, 2));
        Check.due(6000, () -> room.where(0, 1));
        Check.due(4000, () -> room.where(0, 3));
        room.pass(10);
        Check.due(3, () -> room.chipGap(15, 15));
    }

    @Says("each has a colour, grams, which are 10 to 500 in tens, and a gap")
    static void eachJobHasGramsColourAndGapOfItsOwn() {
        InkKitchen room = Rooms.plain(50, 50, 50);
        room.job(50, 50, 50, 10, 0);
        room.job(0, 0, 0, 500, 300);
        room.job(100, 100, 100, 20, 149);
        Check.due(0, () -> room.recipe(0, 6));
        Check.due(150, () -> room.recipe(1, 6));
        Check.dueThrow(Check.STATE, () -> room.recipe(2, 6));
        room.mix(0);
        Check.due(10000, () -> room.where(0, 2));
        room.mix(1);
        Check.due(510000, () -> room.where(0, 2));
        Check.dueThrow(Check.ARGUMENT, () -> room.print(0, 11, false));
        Check.due(-1, () -> room.print(0, 10, false));
        Check.dueThrow(Check.ARGUMENT, () -> room.print(1, 501, false));
        Check.due(-1, () -> room.print(1, 500, false));
    }

    @Says("Mixing a job takes what the recipe tells.")
    static void mixingMayTakeTheLastOfTheStock() {
        InkKitchen room = new InkKitchen();
        int[] grams = {20, 30, 40, 10};
        for (int base = 0; base < 4; base++) {
            room.buy(base, grams[base]);
        }
        room.job(50, 50, 20, 100, 30);
        room.mix(0);
        for (int i = 0; i < 4; i++) {
            int base = i;
            Check.due(0, () -> room.where(base, 0));
            Check.due(1000 * grams[base], () -> room.where(base, 2));
        }
    }

    @Says("Mixing a job takes what the recipe tells.")
    static void mixingMayTakeTheLastOfATinAndNothingOfTheStock() {
        InkKitchen room = Rooms.plain(10, 20, 30);
        Rooms.printed(room, 100, 50, false);
        room.job(10, 20, 30, 50, 0);
        Check.due(10, () -> room.recipe(1, 4));
        room.mix(1);
        Check.due(0, () -> room.inTin(0, 0));
        Check.due(4900000, () -> room.where(0, 0));
        Check.due(50000, () -> room.where(0, 2));
    }

    @Says("Printing it uses up some grams of its ink, which are taken out of it")
    static void printingUsesUpAGramOrAll() {
        InkKitchen room = Rooms.plain(0, 0, 0);
        Rooms.printed(room, 500, 1, false);
        Check.due(1000, () -> room.where(0, 3));
        Check.due(499000, () -> room.where(0, 1));
        InkKitchen all = Rooms.plain(0, 0, 0);
        Rooms.printed(all, 500, 500, false);
        Check.due(500000, () -> all.where(0, 3));
        Check.due(0, () -> all.where(0, 1));
    }

    @Says("what is left of it is a new tin, if something is")
    static void aGramThatIsLeftIsATinAndNothingIsNone() {
        InkKitchen room = Rooms.plain(0, 0, 0);
        Rooms.mixed(room, 10);
        Rooms.mixed(room, 10);
        Check.due(-1, () -> room.print(0, 10, false));
        Check.due(0, room::tins);
        Check.due(0, () -> room.print(1, 9, false));
        Check.due(1, room::tins);
        Check.due(1000, () -> room.inTin(0, 0));
    }

    @Says("A job is open (0), mixed (1) or printed (2).")
    static void aJobIsOpenMixedAndPrinted() {
        InkKitchen room = Rooms.plain(0, 0, 0);
        room.job(0, 0, 0, 10, 0);
        room.job(0, 0, 0, 10, 0);
        room.job(0, 0, 0, 10, 0);
        Check.due(0, () -> room.state(1));
        room.mix(1);
        Check.due(1, () -> room.state(1));
        room.print(1, 10, false);
        Check.due(2, () -> room.state(1));
        Check.due(0, () -> room.state(0));
        Check.due(0, () -> room.state(2));
    }

    @Says("When a call throws, nothing has changed")
    static void everyRefusedCallOfABusyRoomChangesNothing() {
        Twins.Use[] wrong = {
            room -> Rooms.setBase(room, 0, 101, 0, 0).answer(), room -> room.buy(0, 5001),
            room -> room.job(0, 0, 0, 15, 0), room -> room.recipe(3, 7),
            room -> room.print(2, 0, true), room -> room.print(2, 21, true),
            room -> room.pass(101), room -> room.inTin(0, 4), room -> room.shade(0, 3),
            room -> room.where(0, 4)};
        Twins.Use[] noSuch = {
            room -> room.recipe(4, 0), room -> room.mix(4), room -> room.print(4, 1, true),
            room -> room.state(4), room -> room.inTin(1, 0), room -> room.shade(1, 0),
            room -> room.chipGap(4, 0), room -> room.chipGap(0, 4)};
        Twins.Use[] notNow = {
            room -> Rooms.setBase(room, 0, 1, 1, 1).answer(), room -> room.recipe(2, 0),
            room -> room.mix(2), room -> room.mix(0), room -> room.print(0, 1, false),
            room -> room.print(1, 1, true), room -> room.print(3, 1, true),
            room -> room.chipGap(1, 0), room -> room.chipGap(2, 0), room -> room.chipGap(0, 3)};
        Twins.dueRefusal(Check.ARGUMENT, Rooms::busy, wrong);
        Twins.dueRefusal(Check.INDEX, Rooms::busy, noSuch);
        Twins.dueRefusal(Check.STATE, Rooms::busy, notNow);
    }

    @Says("of several exceptions it is the first one of the throws clause.")
    static void whereSeveralExceptionsMeetItIsTheFirstOne() {
        Twins.Maker full = TermsTest::full;
        Twins.dueRefusal(Check.ARGUMENT, full, room -> Rooms.setBase(room, 4, 1, 1, 1).answer(),
                room -> room.buy(0, 5001), room -> room.job(1, 1, 1, 15, 0),
                room -> room.recipe(0, 7), room -> room.recipe(2, -1),
                room -> room.print(0, 0, true), room -> room.print(15, 11, true),
                room -> room.pass(101), room -> room.shade(0, 3));
        Twins.dueRefusal(Check.INDEX, full, room -> room.recipe(16, 7), room -> room.mix(16),
                room -> room.print(16, 0, true), room -> room.inTin(1, 4),
                room -> room.shade(1, 3), room -> room.chipGap(15, 16),
                room -> room.chipGap(16, 15));
        Twins.dueRefusal(Check.STATE, full, room -> Rooms.setBase(room, 3, 1, 1, 1).answer(),
                room -> room.buy(0, 5000), room -> room.job(1, 1, 1, 10, 0),
                room -> room.recipe(0, 6), room -> room.mix(15), room -> room.print(0, 10, true),
                room -> room.print(15, 10, true), room -> room.pass(100),
                room -> room.shade(0, 2), InkKitchen::washesByAll,
                room -> room.chipGap(1, 0), room -> room.chipGap(0, 15));
    }

    /**
     * A room on day 10000, with all grams of base 0 bought and with 16 jobs: 0, of 20 grams, is
     * printed with a chip; of the others, of 10 grams, 1 to 8 are mixed. Tin 0 is empty.
     */
    private static InkKitchen full() {
        InkKitchen room = new InkKitchen();
        for (int i = 0; i < 20; i++) {
            room.buy(0, 5000);
        }
        Rooms.printed(room, 20, 10, true);
        for (int i = 1; i < 16; i++) {
            room.job(0, 0, 0, 10, 0);
        }
        for (int job = 1; job < 9; job++) {
            room.mix(job);
        }
        for (int i = 0; i < 100; i++) {
            room.pass(100);
        }
        return room;
    }

    /** Asks a recipe of a job of this colour whose gap it may have. */
    private static int gap(InkKitchen room, int one, int two, int three) {
        return room.recipe(room.job(one, two, three, 10, 300), 6);
    }

    /** A room with a tin of an ink of ten grams of two bases, of which nine were used up. */
    private static InkKitchen mixedOfTwo(int[] zero, int grams, int[] one, int others) {
        InkKitchen room = new InkKitchen();
        room.setBase(0, zero[0], zero[1], zero[2]);
        room.setBase(1, one[0], one[1], one[2]);
        room.buy(0, grams);
        room.buy(1, others);
        Rooms.printed(room, 10, 9, false);
        return room;
    }

    private static void dueShade(InkKitchen room, int tin, int one, int two, int three) {
        Check.due(one, () -> room.shade(tin, 0));
        Check.due(two, () -> room.shade(tin, 1));
        Check.due(three, () -> room.shade(tin, 2));
    }

    private static void dueTin(InkKitchen room, int tin, int... milligrams) {
        for (int i = 0; i < 4; i++) {
            int base = i;
            Check.due(milligrams[base], () -> room.inTin(tin, base));
        }
    }
}
