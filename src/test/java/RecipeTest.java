/** Promise 5, and what "Terms" says of recipes. */
final class RecipeTest {
    private RecipeTest() {
    }

    @Says("A recipe for a job tells the tenths of each base, and the tenths of one tin, or of none,"
        + " 10 together.")
    static void allTenthsAreTenTogether() {
        InkKitchen room = roomWithTwoTins();
        int[] gaps = {300, 100, 50, 30, 10};
        for (int gap : gaps) {
            int job = room.job(60, 40, 20, 30, gap);
            int sum = 0;
            for (int what = 0; what < 5; what++) {
                sum += room.recipe(job, what);
            }
            Check.same("the sum of the tenths", "10", Integer.toString(sum));
        }
    }

    @Says("or of none")
    static void aRecipeMayBeWithoutATin() {
        InkKitchen room = roomWithTin(10);
        room.job(0, 0, 0, 10, 0);
        dueRecipe(room, 1, 10, 0, 0, 0, 0, -1, 0);
    }

    @Says("the tenths of one tin")
    static void aRecipeMayBeOfATinAlone() {
        InkKitchen room = roomWithTin(10);
        room.job(100, 10, 20, 10, 0);
        dueRecipe(room, 1, 0, 0, 0, 0, 10, 0, 0);
    }

    @Says("the tenths of one tin")
    static void aRecipeIsNotOfTwoTins() {
        InkKitchen room = new InkKitchen();
        room.buy(0, 20);
        Rooms.mixed(room, 10);
        Rooms.mixed(room, 10);
        room.print(0, 5, false);
        room.print(1, 5, false);
        room.job(0, 0, 0, 10, 300);
        Check.dueThrow(Check.STATE, () -> room.recipe(2, 0));
        room.buy(0, 5);
        dueRecipe(room, 2, 5, 0, 0, 0, 5, 0, 0);
    }

    @Says("It can be made, if each stock")
    static void eachStockMustHaveEnoughToTheGram() {
        for (int base = 0; base < 4; base++) {
            for (int grams : new int[] {10, 500}) {
                InkKitchen room = new InkKitchen();
                room.buy(base, grams - 1);
                room.job(0, 0, 0, grams, 300);
                Check.dueThrow(Check.STATE, () -> room.recipe(0, 6));
                room.buy(base, 1);
                int tenthsOf = base;
                Check.due(10, () -> room.recipe(0, tenthsOf));
            }
        }
    }

    @Says("It can be made, if each stock")
    static void ofEachStockComeWholeTenthsAlone() {
        InkKitchen room = new InkKitchen();
        room.job(0, 0, 0, 20, 300);
        room.buy(0, 19);
        room.buy(3, 1);
        Check.dueThrow(Check.STATE, () -> room.recipe(0, 6));
        room.buy(3, 1);
        dueRecipe(room, 0, 9, 0, 0, 1, 0, -1, 27);
        room.buy(0, 1);
        dueRecipe(room, 0, 10, 0, 0, 0, 0, -1, 0);
    }

    @Says("and the tin, have enough")
    static void theTinMustHaveEnoughToTheGram() {
        InkKitchen room = roomWithTin(10);
        room.job(100, 10, 20, 10, 300);
        dueRecipe(room, 1, 0, 0, 0, 0, 10, 0, 0);
        InkKitchen less = roomWithTin(9);
        less.job(100, 10, 20, 10, 300);
        dueRecipe(less, 1, 0, 1, 0, 0, 9, 0, 0);
        InkKitchen big = roomWithTin(19);
        big.job(100, 10, 20, 20, 300);
        dueRecipe(big, 1, 0, 1, 0, 0, 9, 0, 0);
    }

    @Says("and the tin, have enough")
    static void aTinThatHasLessThanATenthIsOfNoUse() {
        InkKitchen room = roomWithTin(7);
        room.job(100, 10, 20, 70, 300);
        dueRecipe(room, 1, 0, 9, 0, 0, 1, 0, 0);
        room.job(100, 10, 20, 80, 300);
        dueRecipe(room, 2, 0, 10, 0, 0, 0, -1, 0);
    }

    @Says("and the tin, have enough")
    static void anEmptyTinIsOfNoUse() {
        InkKitchen room = roomWithTin(10);
        room.job(100, 10, 20, 10, 0);
        room.mix(1);
        room.job(100, 10, 20, 10, 300);
        dueRecipe(room, 2, 0, 10, 0, 0, 0, -1, 0);
    }

    @Says("It can be made, if each stock, and the tin, have enough.")
    static void besideATinTheStockMustHaveTheRest() {
        InkKitchen room = new InkKitchen();
        room.buy(0, 20);
        Rooms.printed(room, 20, 11, false);
        room.job(0, 0, 0, 10, 300);
        Check.dueThrow(Check.STATE, () -> room.recipe(1, 4));
        room.buy(2, 1);
        dueRecipe(room, 1, 0, 0, 1, 0, 9, 0, 13);
    }

    @Says("It can be made, if each stock, and the tin, have enough.")
    static void asMuchAsTheStockNeedsIsTakenOfATin() {
        InkKitchen room = new InkKitchen();
        room.buy(0, 500);
        Rooms.printed(room, 500, 350, false);
        int job = room.job(0, 0, 0, 500, 0);
        room.buy(0, 349);
        Check.dueThrow(Check.STATE, () -> room.recipe(job, 5));
        room.buy(0, 1);
        dueRecipe(room, job, 7, 0, 0, 0, 3, 0, 0);
    }

    @Says("Its colour is that of the ink that comes of it")
    static void coloursAreRoundedDown() {
        InkKitchen room = Rooms.stocked(10);
        room.setBase(0, 1, 0, 0);
        room.setBase(1, 0, 9, 0);
        room.setBase(2, 100, 100, 100);
        room.setBase(3, 100, 100, 100);
        room.buy(0, 90);
        room.job(0, 0, 0, 100, 300);
        // 9 tenths of 1 and a tenth of 0 is 0.9, and a tenth of 9 is 0.9.
        dueRecipe(room, 0, 9, 1, 0, 0, 0, -1, 0);
    }

    @Says("Its colour is that of the ink that comes of it")
    static void theColourOfATinIsNotRoundedBeforeItIsMixed() {
        InkKitchen room = new InkKitchen();
        room.setBase(0, 1, 0, 0);
        room.setBase(1, 0, 0, 0);
        room.setBase(2, 2, 0, 0);
        room.buy(0, 18);
        room.buy(1, 2);
        Rooms.printed(room, 20, 11, false);
        Check.due(0, () -> room.shade(0, 0));
        room.buy(2, 1);
        room.job(1, 0, 0, 10, 300);
        // 9 tenths of 0.9 and a tenth of 2 is 1.01.
        dueRecipe(room, 1, 0, 0, 1, 0, 9, 0, 0);
    }

    @Says("and its gap is that to the colour of the job")
    static void theGapIsToldFromNothingTo300() {
        InkKitchen room = Rooms.plain(100, 100, 100);
        room.job(100, 100, 100, 10, 300);
        room.job(0, 0, 0, 10, 300);
        room.job(100, 99, 0, 10, 300);
        dueRecipe(room, 0, 10, 0, 0, 0, 0, -1, 0);
        dueRecipe(room, 1, 10, 0, 0, 0, 0, -1, 300);
        dueRecipe(room, 2, 10, 0, 0, 0, 0, -1, 101);
    }

    @Says("whose gap is at most that of the job")
    static void theGapMayBeThatOfTheJobAndNotOneMore() {
        InkKitchen room = Rooms.plain(10, 20, 30);
        room.job(13, 16, 35, 10, 12);
        room.job(13, 16, 35, 10, 11);
        dueRecipe(room, 0, 10, 0, 0, 0, 0, -1, 12);
        Check.dueThrow(Check.STATE, () -> room.recipe(1, 6));
    }

    @Says("whose gap is at most that of the job")
    static void aJobOfNoGapWantsItsVeryColour() {
        InkKitchen room = Rooms.plain(10, 20, 30);
        room.job(10, 20, 30, 10, 0);
        room.job(10, 20, 31, 10, 0);
        dueRecipe(room, 0, 10, 0, 0, 0, 0, -1, 0);
        Check.dueThrow(Check.STATE, () -> room.recipe(1, 6));
    }

    @Says("The recipe of a job is, of all that can be made")
    static void whatCanNotBeMadeIsPassedOver() {
        InkKitchen room = new InkKitchen();
        room.buy(1, 12);
        room.job(100, 10, 20, 10, 0);
        room.mix(0);
        room.print(0, 6, false);
        room.buy(0, 10);
        room.job(100, 10, 20, 10, 300);
        // The tin has four tenths, not ten, and base 1 has two, not six.
        dueRecipe(room, 1, 4, 2, 0, 0, 4, 0, 52);
        room.buy(1, 4);
        dueRecipe(room, 1, 0, 6, 0, 0, 4, 0, 0);
    }

    @Says({"the one with the most tenths of a tin", "A press room that mixes its own inks: colours"
        + " are mixed from bases and from left tins, as near as a gap allows, with as much of a tin"
        + " as can be"})
    static void asMuchOfATinAsTheGapAllows() {
        InkKitchen room = roomWithTin(10);
        room.job(50, 5, 10, 10, 65);
        room.job(50, 5, 10, 10, 64);
        room.job(50, 5, 10, 10, 13);
        room.job(50, 5, 10, 10, 12);
        dueRecipe(room, 1, 0, 0, 0, 0, 10, 0, 65);
        dueRecipe(room, 2, 1, 0, 0, 0, 9, 0, 52);
        dueRecipe(room, 3, 4, 0, 0, 0, 6, 0, 13);
        dueRecipe(room, 4, 5, 0, 0, 0, 5, 0, 0);
    }

    @Says("the one with the most tenths of a tin")
    static void oneTenthOfATinComesBeforeALesserGap() {
        InkKitchen room = roomWithTin(10);
        room.job(90, 90, 90, 10, 15);
        room.job(90, 90, 90, 10, 14);
        // A tenth of the tin and nine of white are 91, 82 and 83: a gap of 16.
        dueRecipe(room, 1, 0, 0, 0, 10, 0, -1, 0);
        room.job(90, 90, 90, 10, 16);
        dueRecipe(room, 3, 0, 0, 0, 9, 1, 0, 16);
        dueRecipe(room, 2, 0, 0, 0, 10, 0, -1, 0);
    }

    @Says("the one with the most tenths of a tin")
    static void ofMoreTinsTheOneWithMoreWhateverItsNumber() {
        InkKitchen room = Rooms.plain(10, 20, 30);
        int[] left = {3, 5, 4};
        for (int i = 0; i < 3; i++) {
            Rooms.mixed(room, 10);
        }
        for (int i = 0; i < 3; i++) {
            room.print(i, 10 - left[i], false);
        }
        room.job(0, 0, 0, 10, 300);
        dueRecipe(room, 3, 5, 0, 0, 0, 5, 1, 60);
    }

    @Says("of several the one with the least gap")
    static void ofTheSameTenthsTheTinWithTheLeastGap() {
        InkKitchen room = roomWithTwoTins();
        room.job(20, 100, 10, 10, 300);
        dueRecipe(room, 2, 0, 0, 0, 0, 10, 1, 0);
        room.job(100, 10, 20, 10, 300);
        dueRecipe(room, 3, 0, 0, 0, 0, 10, 0, 0);
    }

    @Says("of several the one with the least gap")
    static void theLeastGapComesBeforeFewerTenthsOfTheLowerBases() {
        InkKitchen room = Rooms.stocked(1000);
        room.job(0, 0, 0, 10, 300);
        room.job(50, 50, 20, 10, 300);
        dueRecipe(room, 0, 10, 0, 0, 0, 0, -1, 0);
        dueRecipe(room, 1, 2, 3, 4, 1, 0, -1, 6);
    }

    @Says("of several the one with the least gap")
    static void aGapThatIsLessByOneIsLess() {
        InkKitchen room = new InkKitchen();
        room.setBase(2, 9, 0, 0);
        room.setBase(3, 10, 0, 0);
        room.buy(2, 30);
        room.buy(3, 30);
        room.job(0, 0, 0, 10, 300);
        // Ten tenths of 10 or, rounded down, 9 with any tenth of 9.
        dueRecipe(room, 0, 0, 0, 1, 9, 0, -1, 9);
        room.job(10, 0, 0, 10, 0);
        room.job(9, 0, 0, 10, 0);
        room.mix(1);
        room.mix(2);
        room.print(1, 5, false);
        room.print(2, 5, false);
        // Five tenths of tin 0 with five of 10 are 10, five of tin 1 with them are 9.
        room.job(0, 0, 0, 10, 300);
        Check.due(9, () -> room.recipe(3, 6));
    }

    @Says("then with the lower tin")
    static void ofTheSameGapTheLowerTin() {
        InkKitchen room = roomWithTwoTins();
        room.job(60, 55, 15, 10, 300);
        dueRecipe(room, 2, 0, 0, 0, 0, 10, 0, 90);
    }

    @Says("then with the lower tin")
    static void theLowerTinComesBeforeFewerTenthsOfTheLowerBases() {
        InkKitchen room = new InkKitchen();
        room.setBase(3, 10, 0, 0);
        room.buy(0, 100);
        room.buy(3, 100);
        room.job(10, 0, 0, 10, 0);
        room.job(0, 0, 0, 10, 0);
        room.mix(0);
        room.mix(1);
        room.print(0, 5, false);
        room.print(1, 5, false);
        room.job(5, 0, 0, 10, 0);
        dueRecipe(room, 2, 5, 0, 0, 0, 5, 0, 0);
    }

    @Says("then with fewer tenths of the base 0")
    static void thenFewerTenthsOfTheBaseZero() {
        dueRecipe(ofOneColour(10, 10, 0, 0), 0, 0, 10, 0, 0, 0, -1, 0);
        dueRecipe(ofOneColour(10, 9, 0, 0), 0, 1, 9, 0, 0, 0, -1, 0);
        // Fewer of the base 0 go before fewer of the others.
        dueRecipe(ofOneColour(5, 10, 0, 5), 0, 0, 5, 0, 5, 0, -1, 0);
        dueRecipe(ofOneColour(5, 0, 10, 5), 0, 0, 0, 5, 5, 0, -1, 0);
    }

    @Says("then of the base 1")
    static void thenFewerTenthsOfTheBaseOne() {
        dueRecipe(ofOneColour(0, 10, 10, 0), 0, 0, 0, 10, 0, 0, -1, 0);
        dueRecipe(ofOneColour(3, 9, 5, 0), 0, 0, 5, 5, 0, 0, -1, 0);
        // Fewer of the base 1 go before fewer of the base 2.
        dueRecipe(ofOneColour(0, 5, 10, 5), 0, 0, 0, 5, 5, 0, -1, 0);
    }

    @Says("then of the base 2")
    static void thenFewerTenthsOfTheBaseTwo() {
        dueRecipe(ofOneColour(0, 0, 10, 10), 0, 0, 0, 0, 10, 0, -1, 0);
        dueRecipe(ofOneColour(0, 0, 10, 9), 0, 0, 0, 1, 9, 0, -1, 0);
        dueRecipe(ofOneColour(3, 3, 3, 3), 0, 1, 3, 3, 3, 0, -1, 0);
    }

    @Says("then with fewer tenths of the base 0, then of the base 1, then of the base 2.")
    static void besideATinTheBasesAreOfTheSameOrder() {
        InkKitchen room = ofOneColour(3, 3, 3, 3);
        room.mix(0);
        room.print(0, 6, false);
        room.buy(1, 2);
        room.buy(3, 3);
        room.job(5, 5, 5, 10, 0);
        dueRecipe(room, 1, 1, 2, 0, 3, 4, 0, 0);
    }

    @Says(promise = 5, value = "Returns what the recipe of an open job tells.")
    static void askingForARecipeChangesNothing() {
        InkKitchen room = Rooms.stocked(1000);
        room.job(50, 50, 20, 100, 30);
        dueRecipe(room, 0, 2, 3, 4, 1, 0, -1, 6);
        dueRecipe(room, 0, 2, 3, 4, 1, 0, -1, 6);
        for (int i = 0; i < 4; i++) {
            int base = i;
            Check.due(1000000, () -> room.where(base, 0));
        }
        Check.due(0, () -> room.state(0));
    }

    @Says(promise = 5, value = "Returns what the recipe of an open job tells.")
    static void aRecipeIsToldWhileEightJobsAreMixed() {
        InkKitchen room = Rooms.plain(0, 0, 0);
        for (int i = 0; i < 8; i++) {
            Rooms.mixed(room, 10);
        }
        room.job(0, 0, 1, 10, 300);
        dueRecipe(room, 8, 10, 0, 0, 0, 0, -1, 1);
    }

    @Says(promise = 5, value = "- `what`: 0 to 3 the tenths of this base, 4 the tenths of a tin, 5"
        + " the tin")
    static void eachWhatTellsItsOwn() {
        InkKitchen room = roomWithTwoTins();
        int job = room.job(20, 100, 10, 20, 35);
        // Five tenths of tin 1 with each of the bases; a gap of 35 keeps tin 0 out.
        dueRecipe(room, job, 0, 0, 5, 0, 5, 1, 0);
        InkKitchen other = Rooms.stocked(1000);
        other.job(50, 50, 20, 100, 30);
        dueRecipe(other, 0, 2, 3, 4, 1, 0, -1, 6);
    }

    @Says(promise = 5, value = "6 the gap")
    static void theGapToldIsThatOfTheRecipe() {
        InkKitchen room = roomWithTin(10);
        int job = room.job(50, 5, 10, 10, 64);
        // The job may have 64 and the tin alone would have 65; nine tenths of it have 52.
        dueRecipe(room, job, 1, 0, 0, 0, 9, 0, 52);
        Check.due(52, () -> room.mix(job));
    }

    @Says(promise = 5, value = "5 the tin, -1 if there is none")
    static void theTinIsMinusOneIfThereIsNone() {
        InkKitchen without = Rooms.stocked(10);
        without.job(0, 0, 0, 10, 300);
        Check.due(-1, () -> without.recipe(0, 5));
        InkKitchen tooFar = roomWithTin(10);
        tooFar.job(0, 0, 0, 10, 12);
        Check.due(-1, () -> tooFar.recipe(1, 5));
        InkKitchen near = roomWithTin(10);
        near.job(0, 0, 0, 10, 13);
        Check.due(0, () -> near.recipe(1, 5));
    }

    @Says(promise = 5, value = "Throws `IndexOutOfBoundsException` if there is no such job")
    static void recipeAsksForAJobThatThereIs() {
        Twins.dueRange(0, 2, Check.INDEX, Rooms::waiting, (room, job) -> room.recipe(job, 0));
        Twins.dueRefusal(Check.INDEX, InkKitchen::new, room -> room.recipe(0, 0));
    }

    @Says(promise = 5, value = "Throws `IndexOutOfBoundsException` if there is no such job")
    static void recipeLooksForTheJobFirst() {
        Twins.dueRefusal(Check.INDEX, Rooms::waiting, room -> room.recipe(3, 7),
                room -> room.recipe(-1, -1), room -> room.recipe(16, 7));
    }

    @Says(promise = 5, value = "Throws `IllegalArgumentException` if what is out of range")
    static void recipeTakesAWhatOfZeroToSix() {
        Twins.dueRange(0, 6, Check.ARGUMENT, Rooms::waiting, (room, what) -> room.recipe(1, what));
    }

    @Says(promise = 5, value = "Throws `IllegalArgumentException` if what is out of range")
    static void recipeLooksAtWhatIsAskedBeforeItLooksAtTheState() {
        Twins.dueRefusal(Check.ARGUMENT, Rooms::busy, room -> room.recipe(0, 7),
                room -> room.recipe(1, -1), room -> room.recipe(2, 7));
        Twins.dueRefusal(Check.ARGUMENT, RecipeTest::withoutStock, room -> room.recipe(0, 7),
                room -> room.recipe(0, -1));
    }

    @Says(promise = 5, value = "Throws `IllegalStateException` if it is not open")
    static void aMixedJobHasNoRecipe() {
        for (int i = 0; i < 7; i++) {
            int what = i;
            Twins.dueRefusal(Check.STATE, Rooms::busy, room -> room.recipe(2, what));
        }
    }

    @Says(promise = 5, value = "Throws `IllegalStateException` if it is not open")
    static void aPrintedJobHasNoRecipe() {
        for (int i = 0; i < 7; i++) {
            int what = i;
            Twins.dueRefusal(Check.STATE, Rooms::busy, room -> room.recipe(0, what),
                    room -> room.recipe(1, what));
        }
    }

    @Says(promise = 5, value = "or there is no recipe")
    static void withoutStockThereIsNoRecipe() {
        for (int i = 0; i < 7; i++) {
            int what = i;
            Twins.dueRefusal(Check.STATE, RecipeTest::withoutStock,
                    room -> room.recipe(0, what));
        }
    }

    @Says(promise = 5, value = "or there is no recipe")
    static void thereIsARecipeOnceThereIsStock() {
        InkKitchen room = withoutStock();
        Check.dueThrow(Check.STATE, () -> room.recipe(0, 5));
        room.buy(2, 10);
        dueRecipe(room, 0, 0, 0, 10, 0, 0, -1, 130);
    }

    @Says(promise = 5, value = "or there is no recipe")
    static void whatWasMixedForAnotherJobIsMissing() {
        InkKitchen room = new InkKitchen();
        room.buy(0, 19);
        room.job(0, 0, 0, 10, 300);
        room.job(0, 0, 0, 10, 300);
        dueRecipe(room, 1, 10, 0, 0, 0, 0, -1, 0);
        room.mix(0);
        Check.dueThrow(Check.STATE, () -> room.recipe(1, 0));
        room.print(0, 9, false);
        dueRecipe(room, 1, 9, 0, 0, 0, 1, 0, 0);
    }

    private static InkKitchen withoutStock() {
        InkKitchen room = new InkKitchen();
        room.job(0, 0, 0, 10, 300);
        return room;
    }

    /** A room with grams of four bases of one colour, and a job of 10 grams of it. */
    private static InkKitchen ofOneColour(int... grams) {
        InkKitchen room = new InkKitchen();
        for (int base = 0; base < 4; base++) {
            room.setBase(base, 5, 5, 5);
            if (grams[base] > 0) {
                room.buy(base, grams[base]);
            }
        }
        room.job(5, 5, 5, 10, 0);
        return room;
    }

    /** A room with a tin of some grams of base 1, at most 19, and with much stock. */
    private static InkKitchen roomWithTin(int grams) {
        InkKitchen room = Rooms.stocked(1000);
        room.job(100, 10, 20, 20, 0);
        room.mix(0);
        room.print(0, 20 - grams, false);
        return room;
    }

    /** A room with 10 grams of base 1 in tin 0 and 10 grams of base 2 in tin 1. */
    private static InkKitchen roomWithTwoTins() {
        InkKitchen room = Rooms.stocked(1000);
        room.job(100, 10, 20, 20, 0);
        room.job(20, 100, 10, 20, 0);
        room.mix(0);
        room.mix(1);
        room.print(0, 10, false);
        room.print(1, 10, false);
        return room;
    }

    private static void dueRecipe(InkKitchen room, int job, int... want) {
        for (int i = 0; i < want.length; i++) {
            int what = i;
            Check.same("recipe(" + job + ", " + what + ")", Integer.toString(want[what]),
                    Check.answerOf(() -> room.recipe(job, what)));
        }
    }
}
