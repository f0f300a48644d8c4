/** A room and its model, used side by side: each call asks that both answer the same. */
final class Pair {
    static final int MOST_CALLS = 512;

    private final InkKitchen room = new InkKitchen();
    private final Model model = new Model();
    private final StringBuilder calls = new StringBuilder();
    private int count;

    boolean mayCall() {
        return count < MOST_CALLS;
    }

    int jobs() {
        return model.jobs();
    }

    int tinsLeft() {
        return model.tins();
    }

    void setBase(int base, int one, int two, int three) {
        same("setBase " + base + " " + one + " " + two + " " + three,
                Rooms.setBase(room, base, one, two, three),
                () -> model.setBase(base, one, two, three));
    }

    void buy(int base, int grams) {
        same("buy " + base + " " + grams, () -> room.buy(base, grams),
                () -> model.buy(base, grams));
    }

    void job(int one, int two, int three, int grams, int gap) {
        same("job " + one + " " + two + " " + three + " " + grams + " " + gap,
                () -> room.job(one, two, three, grams, gap),
                () -> model.job(one, two, three, grams, gap));
    }

    void recipe(int job, int what) {
        same("recipe " + job + " " + what, () -> room.recipe(job, what),
                () -> model.recipe(job, what));
    }

    void mix(int job) {
        same("mix " + job, () -> room.mix(job), () -> model.mix(job));
    }

    void print(int job, int used, boolean chip) {
        same("print " + job + " " + used + " " + chip, () -> room.print(job, used, chip),
                () -> model.print(job, used, chip));
    }

    void pass(int days) {
        same("pass " + days, () -> room.pass(days), () -> model.pass(days));
    }

    void state(int job) {
        same("state " + job, () -> room.state(job), () -> model.state(job));
    }

    void tins() {
        same("tins", room::tins, model::tins);
    }

    void inTin(int tin, int base) {
        same("inTin " + tin + " " + base, () -> room.inTin(tin, base),
                () -> model.inTin(tin, base));
    }

    void shade(int tin, int part) {
        same("shade " + tin + " " + part, () -> room.shade(tin, part),
                () -> model.shade(tin, part));
    }

    void where(int base, int place) {
        same("where " + base + " " + place, () -> room.where(base, place),
                () -> model.where(base, place));
    }

    void washes() {
        same("washes", room::washes, model::washes);
    }

    void washesByAll() {
        same("washesByAll", room::washesByAll, model::washesByAll);
    }

    void firstRun() {
        same("firstRun", room::firstRun, model::firstRun);
    }

    void wear() {
        same("wear", room::wear, model::wear);
    }

    void chipGap(int job, int other) {
        same("chipGap " + job + " " + other, () -> room.chipGap(job, other),
                () -> model.chipGap(job, other));
    }

    private void same(String call, Check.Call ofRoom, Check.Call ofModel) {
        calls.append("\n  ").append(call);
        count++;
        Check.same("the last of the calls" + calls + "\n", Check.answerOf(ofModel),
                Check.answerOf(ofRoom));
    }
}
