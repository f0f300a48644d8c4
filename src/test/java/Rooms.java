/** Press rooms that tests begin with, and all that can be asked of one. */
final class Rooms {
    private Rooms() {
    }

    /** A room with the same grams of each base in stock, at most 5000. */
    static InkKitchen stocked(int grams) {
        InkKitchen room = new InkKitchen();
        for (int base = 0; base < 4; base++) {
            room.buy(base, grams);
        }
        return room;
    }

    /** A room with one base of this colour and nothing else, so that each ink has this colour. */
    static InkKitchen plain(int one, int two, int three) {
        InkKitchen room = new InkKitchen();
        room.setBase(0, one, two, three);
        room.buy(0, 5000);
        return room;
    }

    /** Takes, mixes and prints a job of any colour. Returns its number. */
    static int printed(InkKitchen room, int grams, int used, boolean chip) {
        int job = room.job(0, 0, 0, grams, 300);
        room.mix(job);
        room.print(job, used, chip);
        return job;
    }

    /** Takes and mixes a job of any colour. Returns its number. */
    static int mixed(InkKitchen room, int grams) {
        int job = room.job(0, 0, 0, grams, 300);
        room.mix(job);
        return job;
    }

    static Check.Call setBase(InkKitchen room, int base, int one, int two, int three) {
        return () -> {
            room.setBase(base, one, two, three);
            return 0;
        };
    }

    /**
     * The answers of calls that change nothing, joined, for the first jobs and tins alone: a room
     * is used for 512 calls at most, and these are some 70.
     */
    static String told(InkKitchen room) {
        StringBuilder told = new StringBuilder();
        add(told, room::tins);
        add(told, room::wear);
        add(told, room::washes);
        add(told, room::washesByAll);
        add(told, room::firstRun);
        for (int job = 0; job < 3; job++) {
            addJob(told, room, job);
        }
        for (int tin = 0; tin < 2; tin++) {
            addTin(told, room, tin);
        }
        for (int base = 0; base < 4; base++) {
            addBase(told, room, base);
        }
        return told.toString();
    }

    private static void addJob(StringBuilder told, InkKitchen room, int job) {
        add(told, () -> room.state(job));
        for (int i = 0; i < 7; i++) {
            int what = i;
            add(told, () -> room.recipe(job, what));
        }
        for (int i = 0; i < 3; i++) {
            int other = i;
            add(told, () -> room.chipGap(job, other));
        }
    }

    private static void addTin(StringBuilder told, InkKitchen room, int tin) {
        for (int i = 0; i < 4; i++) {
            int index = i;
            add(told, () -> room.inTin(tin, index));
            add(told, () -> room.shade(tin, index));
        }
    }

    private static void addBase(StringBuilder told, InkKitchen room, int base) {
        for (int i = 0; i < 4; i++) {
            int place = i;
            add(told, () -> room.where(base, place));
        }
    }

    private static void add(StringBuilder told, Check.Call call) {
        told.append(Check.answerOf(call)).append(' ');
    }

    /** Asks that the call throws this and that nothing that the room tells has changed by it. */
    static void dueThrowAndNoChange(InkKitchen room, Class<? extends RuntimeException> want,
            Check.Call call) {
        String before = told(room);
        Check.dueThrow(want, call);
        Check.same("what the room tells behind it", before, told(room));
    }
}
