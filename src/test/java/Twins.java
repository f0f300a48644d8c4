/**
 * Two rooms made by the same calls. In one of them calls are refused; what both answer afterwards,
 * when they are asked and when they are used on, must be the same.
 */
final class Twins {
    interface Maker {
        InkKitchen make();
    }

    interface Use {
        int on(InkKitchen room);
    }

    interface UseWith {
        int on(InkKitchen room, int value);
    }

    private Twins() {
    }

    /** A maker's room may have had some 150 calls; with those behind it, 512 are the most. */
    static void dueRefusal(Class<? extends RuntimeException> want, Maker maker, Use... calls) {
        InkKitchen refused = maker.make();
        InkKitchen other = maker.make();
        for (Use call : calls) {
            Check.dueThrow(want, () -> call.on(refused));
        }
        Check.same("the room behind refused calls", Rooms.usedOn(other), Rooms.usedOn(refused));
    }

    /** The least and the most are taken; what is beside them, or far from them, is refused. */
    static void dueRange(int least, int most, Class<? extends RuntimeException> want, Maker maker,
            UseWith call) {
        for (int value : new int[] {least, most}) {
            InkKitchen room = maker.make();
            String answer = Check.answerOf(() -> call.on(room, value));
            Check.same("whether " + value + " is taken", "false",
                    Boolean.toString(answer.startsWith("throws.")));
        }
        for (int value : new int[] {least - 1, most + 1, Integer.MIN_VALUE, Integer.MAX_VALUE}) {
            dueRefusal(want, maker, room -> call.on(room, value));
        }
    }
}
