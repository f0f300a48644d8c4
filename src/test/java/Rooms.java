import java.lang.reflect.Field;

/** Press rooms that tests begin with, and all that can be asked of one. */
final class Rooms {
    private Rooms() {
    }

    /** A room with the same grams of each base in stock, at most 5000. */
    static InkKitchen stocked(int grams) {
        InkKitchen room = new InkKitchen();
        for (int base = 0; base < 4; base++) {
            room.buy(base, grams);
        }
        return room;
    }

    /** A room with one base of this colour and nothing else, so that each ink has this colour. */
    static InkKitchen plain(int one, int two, int three) {
        InkKitchen room = new InkKitchen();
        room.setBase(0, one, two, three);
        room.buy(0, 5000);
        return room;
    }

    /** Takes, mixes and prints a job of any colour. Returns its number. */
    static int printed(InkKitchen room, int grams, int used, boolean chip) {
        int job = room.job(0, 0, 0, grams, 300);
        room.mix(job);
        room.print(job, used, chip);
        return job;
    }

    /** Takes and mixes a job of any colour. Returns its number. */
    static int mixed(InkKitchen room, int grams) {
        int job = room.job(0, 0, 0, grams, 300);
        room.mix(job);
        return job;
    }

    /** A room in which nothing was mixed yet, with stock and with three open jobs. */
    static InkKitchen waiting() {
        InkKitchen room = stocked(100);
        room.job(100, 10, 20, 20, 300);
        room.job(20, 100, 10, 30, 300);
        room.job(40, 40, 40, 50, 300);
        return room;
    }

    /**
     * A room on day 15 with job 0 printed, with a chip and a tin of 10 grams, job 1 printed without
     * both, job 2, of 20 grams, mixed, and job 3, of 20 grams, open.
     */
    static InkKitchen busy() {
        InkKitchen room = stocked(100);
        room.job(50, 50, 20, 20, 300);
        room.job(90, 90, 90, 20, 300);
        room.job(20, 90, 10, 20, 300);
        room.job(100, 10, 20, 20, 300);
        room.mix(0);
        room.mix(1);
        room.mix(2);
        room.print(0, 10, true);
        room.pass(15);
        room.print(1, 20, false);
        return room;
    }

    /**
     * A room with a mixed job 0 of 20 grams of base 0 and some tins, empty ones. With 16 jobs no
     * calls bring 30 tins about, so that their count is written into the room here.
     */
    static InkKitchen withTins(int tins) {
        InkKitchen room = plain(0, 0, 0);
        mixed(room, 20);
        try {
            Field shelf = InkKitchen.class.getDeclaredField("shelf");
            shelf.setAccessible(true);
            ((InkKitchen.Shelf) shelf.get(room)).tinCount = tins;
        } catch (ReflectiveOperationException e) {
            throw new AssertionError("the tins stand elsewhere: " + e);
        }
        return room;
    }

    /**
     * A room in which 9 of 10 grams of an ink were used up some times, with 9 grams of a base added
     * to the gram that was left each time: the first ink has some grams of each base, ten together,
     * and behind it a thousandth of them stands in the fourth one, as no base but the added one is
     * in stock. Each time leaves a tin.
     */
    static InkKitchen thinned(int[] grams, int added, int times) {
        int[][] colours = {{0, 0, 0}, {100, 10, 20}, {20, 100, 10}, {90, 90, 90}};
        InkKitchen room = new InkKitchen();
        int[] sum = new int[3];
        for (int base = 0; base < 4; base++) {
            if (grams[base] > 0) {
                room.buy(base, base == added ? 1000 : grams[base]);
            }
            for (int part = 0; part < 3; part++) {
                sum[part] += grams[base] * colours[base][part];
            }
        }
        room.job(sum[0] / 10, sum[1] / 10, sum[2] / 10, 10, 0);
        for (int job = 0; job < times; job++) {
            int last = job;
            if (job > 0) {
                room.job(0, 0, 0, 10, 300);
                Check.due(1, () -> room.recipe(last, 4));
            }
            Check.due(job > 0 ? 9 : grams[added], () -> room.recipe(last, added));
            room.mix(job);
            Check.due(last, () -> room.print(last, 9, false));
        }
        return room;
    }

    static Check.Call setBase(InkKitchen room, int base, int one, int two, int three) {
        return () -> {
            room.setBase(base, one, two, three);
            return 0;
        };
    }

    /**
     * The answers of calls that change nothing, joined, for the first jobs and tins alone: a room
     * is used for 512 calls at most, and these are some 70.
     */
    static String told(InkKitchen room) {
        StringBuilder told = new StringBuilder();
        add(told, room::tins);
        add(told, room::wear);
        add(told, room::washes);
        add(told, room::washesByAll);
        add(told, room::firstRun);
        for (int job = 0; job < 3; job++) {
            addJob(told, room, job);
        }
        for (int tin = 0; tin < 2; tin++) {
            addTin(told, room, tin);
        }
        for (int base = 0; base < 4; base++) {
            addBase(told, room, base);
        }
        return told.toString();
    }

    /**
     * The answers of a room that is asked, used on and asked again, joined: some 320 calls, so that
     * what is kept of it without being told shows too (the day, what was bought, what was printed
     * last, whether anything was mixed).
     */
    static String usedOn(InkKitchen room) {
        StringBuilder told = new StringBuilder(told(room));
        for (int i = 0; i < 4; i++) {
            int base = i;
            add(told, setBase(room, base, 9, 8 + base, 7));
            add(told, () -> room.buy(base, 1));
            add(told, () -> room.buy(base, 7));
        }
        add(told, () -> room.pass(3));
        addEachJob(told, room::state);
        addEachJob(told, job -> room.recipe(job, 6));
        // Twice, as of sixteen jobs eight at most are mixed at once.
        addPrintings(told, room);
        addPrintings(told, room);
        add(told, () -> room.job(40, 50, 60, 30, 300));
        addPrintings(told, room);
        told.append(told(room));
        add(told, () -> room.pass(9));
        addEachJob(told, job -> room.chipGap(job, job));
        return told.toString();
    }

    private static void addPrintings(StringBuilder told, InkKitchen room) {
        addEachJob(told, room::mix);
        add(told, room::washes);
        add(told, room::firstRun);
        addEachJob(told, job -> room.print(job, 5, job % 2 == 0));
    }

    private interface CallOfJob {
        int answer(int job);
    }

    private static void addEachJob(StringBuilder told, CallOfJob call) {
        for (int i = 0; i <= 16; i++) {
            int job = i;
            add(told, () -> call.answer(job));
        }
    }

    private static void addJob(StringBuilder told, InkKitchen room, int job) {
        add(told, () -> room.state(job));
        for (int i = 0; i < 7; i++) {
            int what = i;
            add(told, () -> room.recipe(job, what));
        }
        for (int i = 0; i < 3; i++) {
            int other = i;
            add(told, () -> room.chipGap(job, other));
        }
    }

    private static void addTin(StringBuilder told, InkKitchen room, int tin) {
        for (int i = 0; i < 4; i++) {
            int index = i;
            add(told, () -> room.inTin(tin, index));
            add(told, () -> room.shade(tin, index));
        }
    }

    private static void addBase(StringBuilder told, InkKitchen room, int base) {
        for (int i = 0; i < 4; i++) {
            int place = i;
            add(told, () -> room.where(base, place));
        }
    }

    private static void add(StringBuilder told, Check.Call call) {
        told.append(Check.answerOf(call)).append(' ');
    }

    /** Asks that the call throws this and that nothing that the room tells has changed by it. */
    static void dueThrowAndNoChange(InkKitchen room, Class<? extends RuntimeException> want,
            Check.Call call) {
        String before = told(room);
        Check.dueThrow(want, call);
        Check.same("what the room tells behind it", before, told(room));
    }
}
