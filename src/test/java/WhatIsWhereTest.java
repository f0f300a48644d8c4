/** Promises 9 to 13. */
final class WhatIsWhereTest {
    private static final int STOCK = 0;
    private static final int TINS = 1;
    private static final int MIXED = 2;
    private static final int PAPER = 3;

    private WhatIsWhereTest() {
    }

    @Says(promise = 9, value = "Returns the state of a job.")
    static void stateIsThatOfTheOneJob() {
        InkKitchen room = Rooms.busy();
        int[] due = {2, 2, 1, 0};
        for (int i = 0; i < 4; i++) {
            int job = i;
            Check.due(due[job], () -> room.state(job));
        }
    }

    @Says(promise = 9, value = "Returns the state of a job.")
    static void aRefusedMixingOrPrintingLeavesTheState() {
        InkKitchen room = new InkKitchen();
        room.job(0, 0, 0, 10, 300);
        Check.dueThrow(Check.STATE, () -> room.mix(0));
        Check.due(0, () -> room.state(0));
        room.buy(0, 10);
        room.mix(0);
        Check.dueThrow(Check.ARGUMENT, () -> room.print(0, 11, false));
        Check.due(1, () -> room.state(0));
    }

    @Says(promise = 9, value = "Throws `IndexOutOfBoundsException` if there is no such job")
    static void stateAsksForAJobThatThereIs() {
        Twins.dueRange(0, 3, Check.INDEX, Rooms::busy, (room, job) -> room.state(job));
        Twins.dueRefusal(Check.INDEX, InkKitchen::new, room -> room.state(0),
                room -> room.state(15), room -> room.state(16));
    }

    @Says(promise = 10, value = "Returns how many tins there are.")
    static void withoutAPrintingThereIsNoTin() {
        InkKitchen room = Rooms.plain(0, 0, 0);
        Check.due(0, room::tins);
        Rooms.mixed(room, 20);
        Check.due(0, room::tins);
    }

    @Says(promise = 10, value = "Returns how many tins there are.")
    static void aPrintingThatLeavesNothingAddsNoTin() {
        InkKitchen room = Rooms.plain(0, 0, 0);
        Rooms.printed(room, 20, 20, false);
        Check.due(0, room::tins);
        Rooms.printed(room, 20, 19, false);
        Check.due(1, room::tins);
    }

    @Says(promise = 10, value = "Returns how many tins there are.")
    static void emptyTinsAreCountedToo() {
        InkKitchen room = Rooms.plain(0, 0, 0);
        Rooms.printed(room, 20, 10, false);
        Rooms.mixed(room, 10);
        Check.due(0, () -> room.inTin(0, 0));
        Check.due(1, room::tins);
        room.print(1, 1, false);
        Check.due(2, room::tins);
    }

    @Says(promise = 10, value = "Returns how many tins there are.")
    static void thirtyTinsAreTold() {
        Check.due(30, () -> Rooms.withTins(30).tins());
    }

    @Says(promise = 11, value = "Returns how many milligrams of a base are in a tin.")
    static void inTinTellsEachBase() {
        InkKitchen room = Rooms.stocked(1000);
        room.job(50, 50, 20, 100, 30);
        room.mix(0);
        room.print(0, 33, false);
        int[] due = {13400, 20100, 26800, 6700};
        for (int i = 0; i < 4; i++) {
            int base = i;
            Check.due(due[base], () -> room.inTin(0, base));
        }
    }

    @Says(promise = 11, value = "Returns how many milligrams of a base are in a tin.")
    static void anEmptyTinHasNothingOfEachBase() {
        for (int i = 0; i < 4; i++) {
            int base = i;
            Check.due(0, () -> withAnEmptyTin().inTin(0, base));
        }
    }

    @Says(promise = 11, value = "- `base`: 0 to 3")
    static void inTinTakesTheBasesZeroToThree() {
        Twins.dueRange(0, 3, Check.ARGUMENT, Rooms::busy, (room, base) -> room.inTin(0, base));
    }

    @Says(promise = 11, value = "Throws `IndexOutOfBoundsException` if there is no such tin")
    static void inTinAsksForATinThatThereIs() {
        Twins.dueRange(0, 1, Check.INDEX, WhatIsWhereTest::withTwoTins,
                (room, tin) -> room.inTin(tin, 0));
        Twins.dueRefusal(Check.INDEX, InkKitchen::new, room -> room.inTin(0, 0));
        Check.due(0, () -> Rooms.withTins(30).inTin(29, 0));
        Check.dueThrow(Check.INDEX, () -> Rooms.withTins(30).inTin(30, 0));
    }

    @Says(promise = 11, value = "Throws `IndexOutOfBoundsException` if there is no such tin")
    static void inTinLooksForTheTinFirst() {
        Twins.dueRefusal(Check.INDEX, Rooms::busy, room -> room.inTin(1, 4),
                room -> room.inTin(-1, -1));
    }

    @Says(promise = 11, value = "Throws `IllegalArgumentException` if base is out of range")
    static void inTinRefusesAWrongBaseOfAnEmptyTinToo() {
        Twins.dueRefusal(Check.ARGUMENT, WhatIsWhereTest::withAnEmptyTin,
                room -> room.inTin(0, 4), room -> room.inTin(0, -1));
    }

    @Says(promise = 12, value = "Returns a part of the colour of a tin.")
    static void shadeIsRoundedDown() {
        InkKitchen room = new InkKitchen();
        room.setBase(0, 0, 9, 19);
        room.setBase(1, 9, 100, 3);
        room.buy(0, 9);
        room.buy(1, 1);
        room.job(0, 18, 17, 10, 0);
        room.mix(0);
        room.print(0, 9, false);
        // 0.9, 18.1 and 17.4.
        Check.due(0, () -> room.shade(0, 0));
        Check.due(18, () -> room.shade(0, 1));
        Check.due(17, () -> room.shade(0, 2));
    }

    @Says(promise = 12, value = "Returns a part of the colour of a tin.")
    static void shadeIsThatOfTheInkNotOfTheJob() {
        InkKitchen room = Rooms.plain(0, 100, 50);
        Rooms.printed(room, 10, 1, false);
        Check.due(0, () -> room.shade(0, 0));
        Check.due(100, () -> room.shade(0, 1));
        Check.due(50, () -> room.shade(0, 2));
    }

    @Says(promise = 12, value = "- `part`: 0 to 2")
    static void shadeTakesThePartsZeroToTwo() {
        Twins.dueRange(0, 2, Check.ARGUMENT, Rooms::busy, (room, part) -> room.shade(0, part));
    }

    @Says(promise = 12, value = "Throws `IndexOutOfBoundsException` if there is no such tin")
    static void shadeAsksForATinThatThereIs() {
        Twins.dueRange(0, 1, Check.INDEX, WhatIsWhereTest::withTwoTins,
                (room, tin) -> room.shade(tin, 0));
        Twins.dueRefusal(Check.INDEX, InkKitchen::new, room -> room.shade(0, 0));
    }

    @Says(promise = 12, value = "Throws `IndexOutOfBoundsException` if there is no such tin")
    static void shadeLooksForTheTinFirst() {
        Twins.dueRefusal(Check.INDEX, Rooms::busy, room -> room.shade(1, 3),
                room -> room.shade(-1, -1));
    }

    @Says(promise = 12, value = "Throws `IllegalArgumentException` if part is out of range")
    static void shadeLooksAtThePartBeforeItLooksIntoTheTin() {
        Twins.dueRefusal(Check.ARGUMENT, WhatIsWhereTest::withAnEmptyTin,
                room -> room.shade(0, 3), room -> room.shade(0, -1));
    }

    @Says(promise = 12, value = "Throws `IllegalStateException` if it is empty")
    static void anEmptyTinHasNoShade() {
        for (int i = 0; i < 3; i++) {
            int part = i;
            Twins.dueRefusal(Check.STATE, WhatIsWhereTest::withAnEmptyTin,
                    room -> room.shade(0, part));
        }
    }

    @Says(promise = 12, value = "Throws `IllegalStateException` if it is empty")
    static void aTinOfOneGramHasAShade() {
        InkKitchen room = Rooms.plain(10, 20, 30);
        Rooms.printed(room, 20, 9, false);
        Rooms.mixed(room, 10);
        Check.due(1000, () -> room.inTin(0, 0));
        Check.due(30, () -> room.shade(0, 2));
    }

    @Says(promise = 13, value = "Returns where the milligrams of a base are.")
    static void whereFollowsTheInk() {
        InkKitchen room = Rooms.plain(10, 20, 30);
        dueWhere(room, 5000000, 0, 0, 0);
        room.job(10, 20, 30, 100, 0);
        dueWhere(room, 5000000, 0, 0, 0);
        room.mix(0);
        dueWhere(room, 4900000, 0, 100000, 0);
        Rooms.mixed(room, 50);
        dueWhere(room, 4850000, 0, 150000, 0);
        room.print(0, 30, false);
        dueWhere(room, 4850000, 70000, 50000, 30000);
        room.print(1, 45, false);
        dueWhere(room, 4850000, 75000, 0, 75000);
        Rooms.mixed(room, 100);
        dueWhere(room, 4820000, 5000, 100000, 75000);
        room.print(2, 100, false);
        dueWhere(room, 4820000, 5000, 0, 175000);
        room.buy(0, 1);
        dueWhere(room, 4821000, 5000, 0, 175000);
        for (int i = 0; i < 4; i++) {
            int place = i;
            Check.due(0, () -> room.where(1, place));
        }
    }

    @Says(promise = 13, value = "Returns where the milligrams of a base are.")
    static void whereTellsAllThatCanBeBought() {
        InkKitchen room = new InkKitchen();
        for (int i = 0; i < 20; i++) {
            room.buy(3, 5000);
        }
        Check.due(100000000, () -> room.where(3, STOCK));
    }

    @Says(promise = 13, value = "- `base`: 0 to 3")
    static void whereTakesTheBasesZeroToThree() {
        for (int i = 0; i < 4; i++) {
            int place = i;
            Twins.dueRange(0, 3, Check.ARGUMENT, Rooms::busy,
                    (room, base) -> room.where(base, place));
        }
    }

    @Says(promise = 13, value = "- `place`: 0 in stock, 1 in tins, 2 in mixed jobs, 3 printed")
    static void whereTellsEachBaseAtEachPlace() {
        InkKitchen room = Rooms.stocked(100);
        room.job(50, 50, 20, 100, 30);
        room.mix(0);
        int[] tenths = {2, 3, 4, 1};
        for (int i = 0; i < 4; i++) {
            int base = i;
            Check.due(tenths[base] * 10000, () -> room.where(base, MIXED));
        }
        room.print(0, 40, false);
        for (int i = 0; i < 4; i++) {
            int base = i;
            Check.due(100000 - tenths[base] * 10000, () -> room.where(base, STOCK));
            Check.due(tenths[base] * 6000, () -> room.where(base, TINS));
            Check.due(0, () -> room.where(base, MIXED));
            Check.due(tenths[base] * 4000, () -> room.where(base, PAPER));
        }
    }

    @Says(promise = 13, value = "- `place`: 0 in stock, 1 in tins, 2 in mixed jobs, 3 printed")
    static void whereTakesThePlacesZeroToThree() {
        Twins.dueRange(0, 3, Check.ARGUMENT, Rooms::busy, (room, place) -> room.where(0, place));
    }

    @Says(promise = 13, value = "Throws `IllegalArgumentException` if base or place is out of"
        + " range")
    static void whereRefusesBothOutOfRange() {
        Twins.dueRefusal(Check.ARGUMENT, InkKitchen::new, room -> room.where(4, 4),
                room -> room.where(-1, -1), room -> room.where(4, 0), room -> room.where(0, 4));
    }

    @Says("what is printed, what is left, and where each milligram of each base is")
    static void noMilligramIsLostOrMade() {
        InkKitchen room = new InkKitchen();
        int[] bought = {150, 140, 130, 120};
        for (int base = 0; base < 4; base++) {
            room.buy(base, bought[base]);
        }
        for (int i = 0; i < 16; i++) {
            int job = room.job(6 * i, 95 - 6 * i, 40 + i, 10 * (1 + i % 3), 300);
            room.mix(job);
            dueAllInAll(room, bought);
            room.print(job, 1 + 3 * i % 10, false);
        }
        dueAllInAll(room, bought);
        Check.same("whether tins were left", "true", Boolean.toString(room.tins() > 10));
    }

    private static void dueAllInAll(InkKitchen room, int[] grams) {
        for (int base = 0; base < 4; base++) {
            int found = 0;
            for (int place = STOCK; place <= PAPER; place++) {
                found += room.where(base, place);
            }
            Check.same("all of base " + base, Integer.toString(1000 * grams[base]),
                    Integer.toString(found));
        }
    }

    private static InkKitchen withTwoTins() {
        InkKitchen room = Rooms.plain(10, 20, 30);
        Rooms.mixed(room, 20);
        Rooms.mixed(room, 20);
        room.print(0, 10, false);
        room.print(1, 11, false);
        return room;
    }

    private static InkKitchen withAnEmptyTin() {
        InkKitchen room = Rooms.plain(10, 20, 30);
        Rooms.printed(room, 20, 10, false);
        Rooms.mixed(room, 10);
        return room;
    }

    private static void dueWhere(InkKitchen room, int stock, int tins, int mixed, int paper) {
        Check.due(stock, () -> room.where(0, STOCK));
        Check.due(tins, () -> room.where(0, TINS));
        Check.due(mixed, () -> room.where(0, MIXED));
        Check.due(paper, () -> room.where(0, PAPER));
    }
}
