/** Promises 1 to 4 and 8. */
final class BasesAndJobsTest {
    private BasesAndJobsTest() {
    }

    @Says(promise = 1, value = "Begins on day 0")
    static void theFirstDayThatGoesByIsDayOne() {
        InkKitchen room = new InkKitchen();
        Check.due(1, () -> room.pass(1));
    }

    @Says(promise = 1, value = "without stocks")
    static void nothingOfAnyBaseIsAnywhereAtFirst() {
        InkKitchen room = new InkKitchen();
        for (int i = 0; i < 16; i++) {
            int base = i / 4;
            int place = i % 4;
            Check.due(0, () -> room.where(base, place));
        }
        for (int i = 0; i < 4; i++) {
            int base = i;
            Check.due(1000, () -> room.buy(base, 1));
        }
    }

    @Says(promise = 1, value = "without stocks and jobs.")
    static void nothingCanBeAskedOfJobsAtFirst() {
        Twins.dueRefusal(Check.INDEX, InkKitchen::new, room -> room.state(0),
                room -> room.recipe(0, 0), room -> room.mix(0), room -> room.print(0, 1, true),
                room -> room.chipGap(0, 0));
        InkKitchen room = new InkKitchen();
        Check.due(0, room::washes);
        Check.due(0, room::washesByAll);
        Check.due(-1, room::firstRun);
        Check.due(0, room::wear);
        Check.due(0, () -> room.job(0, 0, 0, 10, 0));
    }

    @Says(promise = 1, value = "Begins on day 0 without stocks and jobs.")
    static void thereAreNoTinsAtFirst() {
        InkKitchen room = new InkKitchen();
        Check.due(0, room::tins);
        Twins.dueRefusal(Check.INDEX, InkKitchen::new, made -> made.inTin(0, 0),
                made -> made.shade(0, 0));
    }

    @Says(promise = 1, value = "Begins on day 0 without stocks and jobs.")
    static void roomsShareNothing() {
        String fresh = Rooms.usedOn(new InkKitchen());
        InkKitchen used = Rooms.plain(7, 8, 9);
        Rooms.printed(used, 10, 5, true);
        used.pass(7);
        Check.same("a new room beside a used one", fresh, Rooms.usedOn(new InkKitchen()));
    }

    @Says(promise = 2, value = "Sets the colour of a base.")
    static void setBaseSetsEachPartOfTheOneBase() {
        for (int i = 0; i < 4; i++) {
            int base = i;
            InkKitchen room = Rooms.stocked(10);
            room.setBase(base, 1, 52, 33);
            room.job(1, 52, 33, 10, 0);
            Check.due(10, () -> room.recipe(0, base));
            int other = (base + 1) % 4;
            int[][] first = {{0, 0, 0}, {100, 10, 20}, {20, 100, 10}, {90, 90, 90}};
            room.job(first[other][0], first[other][1], first[other][2], 10, 0);
            Check.due(10, () -> room.recipe(1, other));
        }
    }

    @Says(promise = 2, value = "Sets the colour of a base.")
    static void theLastColourThatWasSetCounts() {
        InkKitchen room = Rooms.plain(1, 2, 3);
        room.setBase(0, 4, 5, 6);
        room.setBase(0, 7, 8, 9);
        room.job(7, 8, 9, 10, 0);
        Check.due(0, () -> room.recipe(0, 6));
    }

    @Says(promise = 2, value = "- `base`: 0 to 3")
    static void setBaseTakesTheBasesZeroToThree() {
        Twins.dueRange(0, 3, Check.ARGUMENT, Rooms::waiting,
                (room, base) -> Rooms.setBase(room, base, 1, 2, 3).answer());
    }

    @Says(promise = 2, value = "- `one`: 0 to 100")
    static void setBaseTakesAFirstPartOfZeroToAHundred() {
        Twins.dueRange(0, 100, Check.ARGUMENT, Rooms::waiting,
                (room, one) -> Rooms.setBase(room, 1, one, 2, 3).answer());
    }

    @Says(promise = 2, value = "- `two`: 0 to 100")
    static void setBaseTakesASecondPartOfZeroToAHundred() {
        Twins.dueRange(0, 100, Check.ARGUMENT, Rooms::waiting,
                (room, two) -> Rooms.setBase(room, 2, 1, two, 3).answer());
    }

    @Says(promise = 2, value = "- `three`: 0 to 100")
    static void setBaseTakesAThirdPartOfZeroToAHundred() {
        Twins.dueRange(0, 100, Check.ARGUMENT, Rooms::waiting,
                (room, three) -> Rooms.setBase(room, 3, 1, 2, three).answer());
    }

    @Says(promise = 2, value = {"- `one`: 0 to 100", "- `two`: 0 to 100", "- `three`: 0 to 100"})
    static void theEdgesOfTheThreePartsAreSetAsTheyAre() {
        InkKitchen room = Rooms.stocked(10);
        room.setBase(0, 0, 100, 0);
        room.setBase(3, 100, 0, 100);
        room.job(0, 100, 0, 10, 0);
        room.job(100, 0, 100, 10, 0);
        Check.due(10, () -> room.recipe(0, 0));
        Check.due(10, () -> room.recipe(1, 3));
    }

    @Says(promise = 2, value = "Throws `IllegalArgumentException` if base, one, two or three is out"
        + " of range")
    static void setBaseWithAWrongPartSetsNoneOfTheOthers() {
        Twins.dueRefusal(Check.ARGUMENT, Rooms::waiting,
                room -> Rooms.setBase(room, 0, 1, 2, 101).answer(),
                room -> Rooms.setBase(room, 0, 1, -1, 3).answer(),
                room -> Rooms.setBase(room, 4, 101, -1, 101).answer());
    }

    @Says(promise = 2, value = "Throws `IllegalArgumentException`")
    static void setBaseLooksAtItsArgumentsFirst() {
        Twins.dueRefusal(Check.ARGUMENT, Rooms::busy,
                room -> Rooms.setBase(room, -1, 1, 1, 1).answer(),
                room -> Rooms.setBase(room, 4, 1, 1, 1).answer(),
                room -> Rooms.setBase(room, 0, 101, 1, 1).answer(),
                room -> Rooms.setBase(room, 0, 1, 101, 1).answer(),
                room -> Rooms.setBase(room, 0, 1, 1, 101).answer());
    }

    @Says(promise = 2, value = "Throws `IllegalStateException` if something was mixed")
    static void setBaseIsFreeUntilSomethingIsMixed() {
        InkKitchen room = new InkKitchen();
        room.job(0, 0, 0, 10, 300);
        Check.dueThrow(Check.STATE, () -> room.mix(0));
        Check.due(0, Rooms.setBase(room, 3, 1, 1, 1));
        room.buy(3, 10);
        Check.due(3, () -> room.recipe(0, 6));
        Check.due(0, Rooms.setBase(room, 3, 2, 2, 2));
        Check.due(6, () -> room.mix(0));
        Check.dueThrow(Check.STATE, Rooms.setBase(room, 3, 2, 2, 2));
    }

    @Says(promise = 2, value = "Throws `IllegalStateException` if something was mixed")
    static void setBaseRefusesEachBaseWhileAJobIsMixed() {
        Twins.Maker maker = () -> {
            InkKitchen room = Rooms.waiting();
            room.mix(0);
            return room;
        };
        for (int i = 0; i < 4; i++) {
            int base = i;
            Twins.dueRefusal(Check.STATE, maker,
                    room -> Rooms.setBase(room, base, 1, 1, 1).answer());
        }
    }

    @Says(promise = 2, value = "Throws `IllegalStateException` if something was mixed")
    static void setBaseRefusesWhenAllThatWasMixedIsPrinted() {
        Twins.dueRefusal(Check.STATE, () -> {
            InkKitchen room = Rooms.waiting();
            room.mix(0);
            room.print(0, 20, false);
            return room;
        }, room -> Rooms.setBase(room, 2, 1, 1, 1).answer());
    }

    @Says(promise = 3, value = "Buys grams of a base.")
    static void buyAddsToTheStockOfTheOneBase() {
        InkKitchen room = new InkKitchen();
        room.buy(2, 7);
        int[] due = {0, 0, 7000, 0};
        for (int i = 0; i < 4; i++) {
            int base = i;
            Check.due(due[base], () -> room.where(base, 0));
        }
    }

    @Says(promise = 3, value = "- `base`: 0 to 3")
    static void buyTakesTheBasesZeroToThree() {
        Twins.dueRange(0, 3, Check.ARGUMENT, Rooms::waiting, (room, base) -> room.buy(base, 1));
    }

    @Says(promise = 3, value = "- `grams`: 1 to 5000")
    static void buyTakesOneToFiveThousandGrams() {
        Twins.dueRange(1, 5000, Check.ARGUMENT, Rooms::waiting,
                (room, grams) -> room.buy(1, grams));
    }

    @Says(promise = 3, value = "Returns how many milligrams are in stock.")
    static void buyReturnsAllOfTheStock() {
        InkKitchen room = new InkKitchen();
        Check.due(1000, () -> room.buy(2, 1));
        Check.due(5001000, () -> room.buy(2, 5000));
        Check.due(3000, () -> room.buy(3, 3));
    }

    @Says(promise = 3, value = "Returns how many milligrams are in stock.")
    static void buyReturnsTheStockWithoutWhatWasMixed() {
        InkKitchen room = new InkKitchen();
        room.buy(0, 10);
        Rooms.mixed(room, 10);
        Check.due(1000, () -> room.buy(0, 1));
    }

    @Says(promise = 3, value = "Throws `IllegalArgumentException` if base or grams is out of range")
    static void buyLooksAtItsArgumentsFirst() {
        Twins.dueRefusal(Check.ARGUMENT, () -> bought(100000), room -> room.buy(1, 0),
                room -> room.buy(1, 5001), room -> room.buy(1, Integer.MAX_VALUE),
                room -> room.buy(4, 1));
    }

    @Says(promise = 3, value = "Throws `IllegalStateException` if more than 100000 grams of it"
        + " would have been bought")
    static void aHundredThousandGramsCanBeBought() {
        InkKitchen room = bought(99999);
        Check.due(100000000, () -> room.buy(1, 1));
        Check.due(100000000, () -> room.where(1, 0));
        InkKitchen atOnce = bought(95000);
        Check.due(100000000, () -> atOnce.buy(1, 5000));
    }

    @Says(promise = 3, value = "Throws `IllegalStateException` if more than 100000 grams of it"
        + " would have been bought")
    static void noGramMoreThanAHundredThousandCanBeBought() {
        Twins.dueRefusal(Check.STATE, () -> bought(99999), room -> room.buy(1, 2));
        Twins.dueRefusal(Check.STATE, () -> bought(100000), room -> room.buy(1, 1));
        Twins.dueRefusal(Check.STATE, () -> bought(95001), room -> room.buy(1, 5000));
    }

    @Says(promise = 3, value = "grams of it")
    static void eachBaseHasAHundredThousandGramsOfItsOwn() {
        InkKitchen room = bought(100000);
        Check.due(5000000, () -> room.buy(0, 5000));
        Check.due(1000, () -> room.buy(2, 1));
    }

    @Says(promise = 3, value = "would have been bought")
    static void gramsThatWereUsedUpCountAsBought() {
        Twins.dueRefusal(Check.STATE, () -> {
            InkKitchen room = bought(100000);
            Rooms.printed(room, 500, 500, false);
            return room;
        }, room -> room.buy(1, 1));
    }

    @Says(promise = 3, value = "would have been bought")
    static void gramsThatWereRefusedDoNotCountAsBought() {
        InkKitchen room = bought(99999);
        for (int i = 0; i < 3; i++) {
            Check.dueThrow(Check.STATE, () -> room.buy(1, 5000));
            Check.dueThrow(Check.ARGUMENT, () -> room.buy(1, 5001));
        }
        Check.due(100000000, () -> room.buy(1, 1));
    }

    @Says(promise = 4, value = "Takes a job.")
    static void aJobThatWasTakenIsOpen() {
        InkKitchen room = new InkKitchen();
        Check.dueThrow(Check.INDEX, () -> room.state(0));
        room.job(1, 2, 3, 10, 4);
        Check.due(0, () -> room.state(0));
    }

    @Says(promise = 4, value = "- `one`: 0 to 100")
    static void jobTakesAFirstPartOfZeroToAHundred() {
        Twins.dueRange(0, 100, Check.ARGUMENT, Rooms::waiting,
                (room, one) -> room.job(one, 2, 3, 10, 4));
    }

    @Says(promise = 4, value = "- `two`: 0 to 100")
    static void jobTakesASecondPartOfZeroToAHundred() {
        Twins.dueRange(0, 100, Check.ARGUMENT, Rooms::waiting,
                (room, two) -> room.job(1, two, 3, 10, 4));
    }

    @Says(promise = 4, value = "- `three`: 0 to 100")
    static void jobTakesAThirdPartOfZeroToAHundred() {
        Twins.dueRange(0, 100, Check.ARGUMENT, Rooms::waiting,
                (room, three) -> room.job(1, 2, three, 10, 4));
    }

    @Says(promise = 4, value = "- `grams`: 10 to 500")
    static void jobTakesTenToFiveHundredGrams() {
        Twins.dueRange(10, 500, Check.ARGUMENT, Rooms::waiting,
                (room, grams) -> room.job(1, 2, 3, grams, 4));
        for (int wrong : new int[] {0, -10, 510, 1000}) {
            Twins.dueRefusal(Check.ARGUMENT, Rooms::waiting,
                    room -> room.job(1, 2, 3, wrong, 4));
        }
    }

    @Says(promise = 4, value = "in tens")
    static void jobTakesGramsInTensAlone() {
        InkKitchen room = new InkKitchen();
        for (int grams = 1; grams < 510; grams++) {
            int asked = grams;
            if (grams % 10 != 0) {
                Check.dueThrow(Check.ARGUMENT, () -> room.job(1, 2, 3, asked, 4));
            }
        }
        Check.due(0, () -> room.job(1, 2, 3, 20, 4));
        Check.due(1, () -> room.job(1, 2, 3, 490, 4));
    }

    @Says(promise = 4, value = "- `gap`: 0 to 300")
    static void jobTakesAGapOfZeroToThreeHundred() {
        Twins.dueRange(0, 300, Check.ARGUMENT, Rooms::waiting,
                (room, gap) -> room.job(1, 2, 3, 10, gap));
    }

    @Says(promise = 4, value = "Returns its number.")
    static void jobsAreNumberedFromZeroToFifteen() {
        InkKitchen room = new InkKitchen();
        for (int i = 0; i < 16; i++) {
            Check.due(i, () -> room.job(1, 2, 3, 10, 4));
        }
    }

    @Says(promise = 4, value = "Returns its number.")
    static void aRefusedJobTakesNoNumber() {
        InkKitchen room = new InkKitchen();
        Check.dueThrow(Check.ARGUMENT, () -> room.job(1, 2, 3, 10, 301));
        Check.due(0, () -> room.job(1, 2, 3, 10, 4));
        Check.dueThrow(Check.ARGUMENT, () -> room.job(1, 2, 3, 11, 4));
        Check.due(1, () -> room.job(1, 2, 3, 10, 4));
    }

    @Says(promise = 4, value = "Throws `IllegalArgumentException` if one, two, three, grams or gap"
        + " is out of range")
    static void jobLooksAtItsArgumentsFirst() {
        Twins.dueRefusal(Check.ARGUMENT, BasesAndJobsTest::full, room -> room.job(-1, 2, 3, 10, 4),
                room -> room.job(1, 101, 3, 10, 4), room -> room.job(1, 2, -1, 10, 4),
                room -> room.job(1, 2, 3, 11, 4), room -> room.job(1, 2, 3, 510, 4),
                room -> room.job(1, 2, 3, 10, 301), room -> room.job(-1, -1, -1, 0, -1));
    }

    @Says(promise = 4, value = "Throws `IllegalStateException` if there are 16 jobs")
    static void thereIsNoSeventeenthJob() {
        Twins.dueRefusal(Check.STATE, BasesAndJobsTest::full, room -> room.job(1, 2, 3, 500, 4),
                room -> room.job(0, 0, 0, 10, 0), room -> room.job(100, 100, 100, 20, 300));
    }

    @Says(promise = 4, value = "Throws `IllegalStateException` if there are 16 jobs")
    static void printedJobsAreAmongTheSixteen() {
        Twins.dueRefusal(Check.STATE, () -> {
            InkKitchen room = Rooms.plain(0, 0, 0);
            for (int i = 0; i < 16; i++) {
                Rooms.printed(room, 10, 10, false);
            }
            return room;
        }, room -> room.job(0, 0, 0, 10, 0));
    }

    @Says(promise = 8, value = "Lets days go by.")
    static void aChipFadesByTheDaysThatGoBy() {
        InkKitchen room = Rooms.plain(0, 0, 0);
        Rooms.printed(room, 10, 10, true);
        room.pass(50);
        Check.due(15, () -> room.chipGap(0, 0));
    }

    @Says(promise = 8, value = "- `days`: 1 to 100")
    static void passTakesOneToAHundredDays() {
        Twins.dueRange(1, 100, Check.ARGUMENT, Rooms::busy, (room, days) -> room.pass(days));
    }

    @Says(promise = 8, value = "Returns the day then.")
    static void passReturnsTheSumOfAllDays() {
        InkKitchen room = new InkKitchen();
        Check.due(1, () -> room.pass(1));
        Check.due(101, () -> room.pass(100));
        Check.due(108, () -> room.pass(7));
    }

    @Says(promise = 8, value = "Throws `IllegalArgumentException` if days is out of range")
    static void passLooksAtItsDaysFirst() {
        Twins.dueRefusal(Check.ARGUMENT, () -> onDay(10000), room -> room.pass(0),
                room -> room.pass(101), room -> room.pass(Integer.MAX_VALUE));
    }

    @Says(promise = 8, value = "Throws `IllegalStateException` if it would be above 10000")
    static void theLastDayIsTenThousand() {
        InkKitchen room = onDay(9999);
        Check.due(10000, () -> room.pass(1));
        InkKitchen atOnce = onDay(9900);
        Check.due(10000, () -> atOnce.pass(100));
    }

    @Says(promise = 8, value = "Throws `IllegalStateException` if it would be above 10000")
    static void noDayComesBehindTenThousand() {
        Twins.dueRefusal(Check.STATE, () -> onDay(9999), room -> room.pass(2));
        Twins.dueRefusal(Check.STATE, () -> onDay(10000), room -> room.pass(1),
                room -> room.pass(100));
        Twins.dueRefusal(Check.STATE, () -> onDay(9950), room -> room.pass(51));
    }

    /** A room in which so many grams of base 1 were bought. */
    private static InkKitchen bought(int grams) {
        InkKitchen room = new InkKitchen();
        for (int left = grams; left > 0; left -= 5000) {
            room.buy(1, Math.min(left, 5000));
        }
        return room;
    }

    /** A room with 16 jobs of which the first ones can be mixed. */
    private static InkKitchen full() {
        InkKitchen room = Rooms.stocked(100);
        for (int i = 0; i < 16; i++) {
            room.job(6 * i, 90 - 6 * i, 50, 10, 300);
        }
        return room;
    }

    private static InkKitchen onDay(int day) {
        InkKitchen room = Rooms.waiting();
        for (int left = day; left > 0; left -= 100) {
            room.pass(Math.min(left, 100));
        }
        return room;
    }
}
