/** Promise 5. */
final class RecipeTest {
    private RecipeTest() {
    }

    static void promise5TellsTenthsAndGap() {
        InkKitchen room = Rooms.stocked(1000);
        room.job(50, 50, 20, 100, 30);
        dueRecipe(room, 0, 2, 3, 4, 1, 0, -1, 6);
        Check.due(1000000, () -> room.where(0, 0));
        Check.due(0, () -> room.state(0));
    }

    static void promise5OrderOfExceptions() {
        InkKitchen room = Rooms.stocked(1000);
        Check.dueThrow(Check.INDEX, () -> room.recipe(0, 0));
        Check.dueThrow(Check.INDEX, () -> room.recipe(-1, 7));
        room.job(0, 0, 0, 10, 0);
        Check.dueThrow(Check.INDEX, () -> room.recipe(1, 7));
        for (int state = 0; state < 3; state++) {
            Check.dueThrow(Check.ARGUMENT, () -> room.recipe(0, 7));
            Check.dueThrow(Check.ARGUMENT, () -> room.recipe(0, -1));
            Check.dueThrow(Check.ARGUMENT, () -> room.recipe(0, Integer.MAX_VALUE));
            Check.dueThrow(Check.ARGUMENT, () -> room.recipe(0, Integer.MIN_VALUE));
            if (state == 0) {
                room.mix(0);
            } else if (state == 1) {
                Rooms.dueThrowAndNoChange(room, Check.STATE, () -> room.recipe(0, 0));
                room.print(0, 1, true);
            } else {
                Rooms.dueThrowAndNoChange(room, Check.STATE, () -> room.recipe(0, 0));
            }
        }
    }

    static void promise5NoRecipeWithoutStock() {
        InkKitchen room = new InkKitchen();
        room.job(0, 0, 0, 10, 300);
        room.buy(0, 9);
        Check.dueThrow(Check.STATE, () -> room.recipe(0, 5));
        room.buy(3, 1);
        dueRecipe(room, 0, 9, 0, 0, 1, 0, -1, 27);
        room.buy(0, 1);
        dueRecipe(room, 0, 10, 0, 0, 0, 0, -1, 0);
    }

    static void promise5TheGapMayBeAtMostThatOfTheJob() {
        InkKitchen room = Rooms.plain(10, 20, 30);
        room.job(13, 16, 35, 10, 12);
        room.job(13, 16, 35, 10, 11);
        dueRecipe(room, 0, 10, 0, 0, 0, 0, -1, 12);
        Check.dueThrow(Check.STATE, () -> room.recipe(1, 6));
    }

    static void promise5ColoursAreRoundedDown() {
        InkKitchen room = Rooms.stocked(10);
        room.setBase(0, 1, 0, 0);
        room.setBase(1, 0, 9, 0);
        room.setBase(2, 100, 100, 100);
        room.setBase(3, 100, 100, 100);
        room.buy(0, 90);
        room.job(0, 0, 0, 100, 300);
        // 9 tenths of 1 and a tenth of 0 is 0.9, and a tenth of 9 is 0.9.
        dueRecipe(room, 0, 9, 1, 0, 0, 0, -1, 0);
    }

    static void promise5OfTheSameGapFewerOfTheLowerBases() {
        InkKitchen room = new InkKitchen();
        for (int base = 0; base < 4; base++) {
            room.setBase(base, 5, 5, 5);
            room.buy(base, 10);
        }
        for (int grams = 10; grams <= 40; grams += 10) {
            room.job(5, 5, 5, grams, 0);
        }
        dueRecipe(room, 0, 0, 0, 0, 10, 0, -1, 0);
        dueRecipe(room, 1, 0, 0, 5, 5, 0, -1, 0);
        dueRecipe(room, 2, 1, 3, 3, 3, 0, -1, 0);
        Check.dueThrow(Check.STATE, () -> room.recipe(3, 0));
        room.buy(2, 2);
        room.buy(3, 2);
        dueRecipe(room, 3, 2, 2, 3, 3, 0, -1, 0);
    }

    static void promise5AsMuchOfATinAsTheGapAllows() {
        InkKitchen room = roomWithTin(10);
        room.job(50, 5, 10, 10, 65);
        room.job(50, 5, 10, 10, 64);
        room.job(50, 5, 10, 10, 13);
        room.job(50, 5, 10, 10, 12);
        dueRecipe(room, 1, 0, 0, 0, 0, 10, 0, 65);
        dueRecipe(room, 2, 1, 0, 0, 0, 9, 0, 52);
        dueRecipe(room, 3, 4, 0, 0, 0, 6, 0, 13);
        dueRecipe(room, 4, 5, 0, 0, 0, 5, 0, 0);
    }

    static void promise5AsMuchOfATinAsIsInIt() {
        InkKitchen room = roomWithTin(7);
        room.job(100, 10, 20, 10, 300);
        dueRecipe(room, 1, 0, 3, 0, 0, 7, 0, 0);
        room.job(100, 10, 20, 20, 300);
        dueRecipe(room, 2, 0, 7, 0, 0, 3, 0, 0);
        room.job(100, 10, 20, 80, 300);
        dueRecipe(room, 3, 0, 10, 0, 0, 0, -1, 0);
    }

    static void promise5ATinMaySpareTheStock() {
        InkKitchen room = Rooms.plain(10, 20, 30);
        Rooms.printed(room, 500, 200, false);
        for (int i = 0; i < 9; i++) {
            Rooms.printed(room, 500, 500, false);
        }
        // The nine have taken the 300 grams of the tin too, and 300 grams are in stock yet.
        Check.due(300000, () -> room.where(0, 0));
        int job = room.job(10, 20, 30, 500, 0);
        Check.dueThrow(Check.STATE, () -> room.recipe(job, 5));
        Rooms.printed(room, 200, 1, false);
        Check.due(100000, () -> room.where(0, 0));
        Check.dueThrow(Check.STATE, () -> room.recipe(job, 5));
        room.buy(0, 250);
        dueRecipe(room, job, 7, 0, 0, 0, 3, 1, 0);
    }

    static void promise5OfMoreTinsTheOneWithMore() {
        InkKitchen room = Rooms.plain(10, 20, 30);
        int[] left = {3, 5, 4};
        for (int i = 0; i < 3; i++) {
            Rooms.mixed(room, 10);
        }
        for (int i = 0; i < 3; i++) {
            room.print(i, 10 - left[i], false);
        }
        room.job(0, 0, 0, 10, 300);
        dueRecipe(room, 3, 5, 0, 0, 0, 5, 1, 60);
    }

    static void promise5OfTheSameTenthsTheTinWithTheLeastGap() {
        InkKitchen room = roomWithTwoTins();
        room.job(20, 100, 10, 10, 300);
        dueRecipe(room, 2, 0, 0, 0, 0, 10, 1, 0);
        room.job(100, 10, 20, 10, 300);
        dueRecipe(room, 3, 0, 0, 0, 0, 10, 0, 0);
    }

    static void promise5OfTheSameGapTheLowerTin() {
        InkKitchen room = roomWithTwoTins();
        room.job(60, 55, 15, 10, 300);
        dueRecipe(room, 2, 0, 0, 0, 0, 10, 0, 90);
    }

    static void promise5TheLowerTinComesBeforeFewerTenthsOfBases() {
        InkKitchen room = new InkKitchen();
        room.setBase(3, 10, 0, 0);
        room.buy(0, 100);
        room.buy(3, 100);
        room.job(10, 0, 0, 10, 0);
        room.job(0, 0, 0, 10, 0);
        room.mix(0);
        room.mix(1);
        room.print(0, 5, false);
        room.print(1, 5, false);
        room.job(5, 0, 0, 10, 0);
        dueRecipe(room, 2, 5, 0, 0, 0, 5, 0, 0);
    }

    static void promise5BasesBesideATinAreOfTheSameOrder() {
        InkKitchen room = new InkKitchen();
        for (int base = 0; base < 4; base++) {
            room.setBase(base, 5, 5, 5);
            room.buy(base, 3);
        }
        room.job(5, 5, 5, 10, 0);
        dueRecipe(room, 0, 1, 3, 3, 3, 0, -1, 0);
        room.mix(0);
        room.print(0, 6, false);
        room.buy(1, 2);
        room.buy(3, 3);
        room.job(5, 5, 5, 10, 0);
        dueRecipe(room, 1, 1, 2, 0, 3, 4, 0, 0);
    }

    static void promise5IsToldWhileEightJobsAreMixed() {
        InkKitchen room = Rooms.plain(0, 0, 0);
        for (int i = 0; i < 8; i++) {
            Rooms.mixed(room, 10);
        }
        room.job(0, 0, 1, 10, 300);
        dueRecipe(room, 8, 10, 0, 0, 0, 0, -1, 1);
    }

    /** A room with a tin of some grams of base 1, at most 19, and with much stock. */
    private static InkKitchen roomWithTin(int grams) {
        InkKitchen room = Rooms.stocked(1000);
        room.job(100, 10, 20, 20, 0);
        room.mix(0);
        room.print(0, 20 - grams, false);
        return room;
    }

    /** A room with 10 grams of base 1 in tin 0 and 10 grams of base 2 in tin 1. */
    private static InkKitchen roomWithTwoTins() {
        InkKitchen room = Rooms.stocked(1000);
        room.job(100, 10, 20, 20, 0);
        room.job(20, 100, 10, 20, 0);
        room.mix(0);
        room.mix(1);
        room.print(0, 10, false);
        room.print(1, 10, false);
        return room;
    }

    private static void dueRecipe(InkKitchen room, int job, int... want) {
        for (int i = 0; i < want.length; i++) {
            int what = i;
            Check.same("recipe(" + job + ", " + what + ")", Integer.toString(want[what]),
                    Check.answerOf(() -> room.recipe(job, what)));
        }
    }
}
