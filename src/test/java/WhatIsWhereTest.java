/** Promises 9 to 13. */
final class WhatIsWhereTest {
    private static final int STOCK = 0;
    private static final int TINS = 1;
    private static final int MIXED = 2;
    private static final int PAPER = 3;

    private WhatIsWhereTest() {
    }

    static void promise9StateGoesFromOpenToPrinted() {
        InkKitchen room = Rooms.plain(0, 0, 0);
        room.job(0, 0, 0, 10, 0);
        room.job(0, 0, 0, 10, 0);
        Check.due(0, () -> room.state(1));
        room.mix(1);
        Check.due(1, () -> room.state(1));
        room.print(1, 3, false);
        Check.due(2, () -> room.state(1));
        Check.due(0, () -> room.state(0));
    }

    static void promise9StateRefuses() {
        InkKitchen room = new InkKitchen();
        Check.dueThrow(Check.INDEX, () -> room.state(0));
        room.job(0, 0, 0, 10, 0);
        int[] wrong = {-1, 1, 16, Integer.MIN_VALUE, Integer.MAX_VALUE};
        for (int job : wrong) {
            Check.dueThrow(Check.INDEX, () -> room.state(job));
        }
    }

    static void promise10TinsCountsEmptyOnesToo() {
        InkKitchen room = Rooms.plain(0, 0, 0);
        Rooms.printed(room, 20, 20, false);
        Check.due(0, room::tins);
        Rooms.printed(room, 20, 10, false);
        Check.due(1, room::tins);
        Rooms.mixed(room, 10);
        Check.due(0, () -> room.inTin(0, 0));
        Check.due(1, room::tins);
        room.print(2, 1, false);
        Check.due(2, room::tins);
    }

    static void promise11InTinTellsEachBase() {
        InkKitchen room = Rooms.stocked(1000);
        room.job(50, 50, 20, 100, 30);
        room.mix(0);
        room.print(0, 33, false);
        int[] due = {13400, 20100, 26800, 6700};
        for (int i = 0; i < 4; i++) {
            int base = i;
            Check.due(due[base], () -> room.inTin(0, base));
        }
    }

    static void promise11InTinRefuses() {
        InkKitchen room = Rooms.plain(0, 0, 0);
        Check.dueThrow(Check.INDEX, () -> room.inTin(0, 4));
        Rooms.printed(room, 20, 10, false);
        int[] wrong = {-1, 1, 29, 30, Integer.MIN_VALUE, Integer.MAX_VALUE};
        for (int tin : wrong) {
            Check.dueThrow(Check.INDEX, () -> room.inTin(tin, 4));
        }
        int[] wrongBases = {-1, 4, Integer.MIN_VALUE, Integer.MAX_VALUE};
        for (int base : wrongBases) {
            Check.dueThrow(Check.ARGUMENT, () -> room.inTin(0, base));
        }
    }

    static void promise12ShadeIsRoundedDown() {
        InkKitchen room = new InkKitchen();
        room.setBase(0, 0, 9, 19);
        room.setBase(1, 9, 100, 3);
        room.buy(0, 9);
        room.buy(1, 1);
        room.job(0, 18, 17, 10, 0);
        room.mix(0);
        room.print(0, 9, false);
        // 0.9, 18.1 and 17.4.
        Check.due(0, () -> room.shade(0, 0));
        Check.due(18, () -> room.shade(0, 1));
        Check.due(17, () -> room.shade(0, 2));
    }

    static void promise12ShadeRefuses() {
        InkKitchen room = Rooms.plain(10, 20, 30);
        Check.dueThrow(Check.INDEX, () -> room.shade(0, 3));
        Rooms.printed(room, 20, 10, false);
        Check.due(30, () -> room.shade(0, 2));
        int[] wrong = {-1, 1, 30, Integer.MIN_VALUE, Integer.MAX_VALUE};
        for (int tin : wrong) {
            Check.dueThrow(Check.INDEX, () -> room.shade(tin, 3));
        }
        Rooms.mixed(room, 10);
        int[] wrongParts = {-1, 3, Integer.MIN_VALUE, Integer.MAX_VALUE};
        for (int part : wrongParts) {
            Check.dueThrow(Check.ARGUMENT, () -> room.shade(0, part));
        }
        Rooms.dueThrowAndNoChange(room, Check.STATE, () -> room.shade(0, 0));
    }

    static void promise13WhereFollowsTheInk() {
        InkKitchen room = Rooms.plain(10, 20, 30);
        dueWhere(room, 5000000, 0, 0, 0);
        room.job(10, 20, 30, 100, 0);
        dueWhere(room, 5000000, 0, 0, 0);
        room.mix(0);
        dueWhere(room, 4900000, 0, 100000, 0);
        Rooms.mixed(room, 50);
        dueWhere(room, 4850000, 0, 150000, 0);
        room.print(0, 30, false);
        dueWhere(room, 4850000, 70000, 50000, 30000);
        room.print(1, 45, false);
        dueWhere(room, 4850000, 75000, 0, 75000);
        Rooms.mixed(room, 100);
        dueWhere(room, 4820000, 5000, 100000, 75000);
        room.print(2, 100, false);
        dueWhere(room, 4820000, 5000, 0, 175000);
        room.buy(0, 1);
        dueWhere(room, 4821000, 5000, 0, 175000);
        for (int i = 0; i < 4; i++) {
            int place = i;
            Check.due(0, () -> room.where(1, place));
        }
    }

    static void promise13WhereTellsEachBase() {
        InkKitchen room = Rooms.stocked(100);
        room.job(50, 50, 20, 100, 30);
        room.mix(0);
        room.print(0, 40, false);
        int[] tenths = {2, 3, 4, 1};
        for (int i = 0; i < 4; i++) {
            int base = i;
            Check.due(100000 - tenths[base] * 10000, () -> room.where(base, STOCK));
            Check.due(tenths[base] * 6000, () -> room.where(base, TINS));
            Check.due(0, () -> room.where(base, MIXED));
            Check.due(tenths[base] * 4000, () -> room.where(base, PAPER));
        }
    }

    static void promise13WhereRefuses() {
        InkKitchen room = new InkKitchen();
        int[] wrong = {-1, 4, Integer.MIN_VALUE, Integer.MAX_VALUE};
        for (int one : wrong) {
            Check.dueThrow(Check.ARGUMENT, () -> room.where(one, 0));
            Check.dueThrow(Check.ARGUMENT, () -> room.where(0, one));
        }
    }

    private static void dueWhere(InkKitchen room, int stock, int tins, int mixed, int paper) {
        Check.due(stock, () -> room.where(0, STOCK));
        Check.due(tins, () -> room.where(0, TINS));
        Check.due(mixed, () -> room.where(0, MIXED));
        Check.due(paper, () -> room.where(0, PAPER));
    }
}
