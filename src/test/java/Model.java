import java.util.ArrayList;
import java.util.Comparator;
import java.util.List;

/**
 * What the document says, written a second time without any haste: each call lists all that there
 * is, sorts it as the document orders it, and takes the first one.
 */
final class Model {
    private static final Comparator<Mixture> AS_PREFERRED =
            Comparator.<Mixture>comparingInt(m -> -m.tinTenths).thenComparingInt(m -> m.gap)
                    .thenComparingInt(m -> m.tin).thenComparingInt(m -> m.tenths[0])
                    .thenComparingInt(m -> m.tenths[1]).thenComparingInt(m -> m.tenths[2]);

    private final long[][] bases = {{0, 0, 0}, {100, 10, 20}, {20, 100, 10}, {90, 90, 90}};
    private final long[] bought = new long[4];
    private final long[] stock = new long[4];
    private final List<Order> orders = new ArrayList<>();
    private final List<long[]> tins = new ArrayList<>();
    private final List<Order> runsPrinted = new ArrayList<>();
    private boolean mixedOnce;
    private int today;
    private int plate;

    private static final class Order {
        long[] colour;
        int grams;
        int gap;
        int state;
        long[] ink;
        long[] inkColour;
        long[] onPaper = new long[4];
        int chipDay = -1;
    }

    private static final class Mixture {
        int[] tenths;
        int tin;
        int tinTenths;
        int gap;
        long[] fromTin;
        long[] ink;
    }

    int jobs() {
        return orders.size();
    }

    int setBase(int base, int one, int two, int three) {
        argument(in(base, 0, 3) && in(one, 0, 100) && in(two, 0, 100) && in(three, 0, 100));
        state(!mixedOnce);
        bases[base] = new long[] {one, two, three};
        return 0;
    }

    int buy(int base, int grams) {
        argument(in(base, 0, 3) && in(grams, 1, 5000));
        state(bought[base] + grams <= 100000);
        bought[base] += grams;
        stock[base] += 1000L * grams;
        return (int) stock[base];
    }

    int job(int one, int two, int three, int grams, int gap) {
        argument(in(one, 0, 100) && in(two, 0, 100) && in(three, 0, 100));
        argument(in(grams, 10, 500) && grams % 10 == 0 && in(gap, 0, 300));
        state(orders.size() < 16);
        Order order = new Order();
        order.colour = new long[] {one, two, three};
        order.grams = grams;
        order.gap = gap;
        orders.add(order);
        return orders.size() - 1;
    }

    int recipe(int job, int what) {
        Order order = order(job);
        argument(in(what, 0, 6));
        state(order.state == 0);
        Mixture best = best(order);
        state(best != null);
        return what < 4 ? best.tenths[what]
                : what == 4 ? best.tinTenths : what == 5 ? best.tin : best.gap;
    }

    int mix(int job) {
        Order order = order(job);
        state(order.state == 0 && mixed().size() < 8);
        Mixture best = best(order);
        state(best != null);
        for (int base = 0; base < 4; base++) {
            stock[base] -= best.ink[base] - best.fromTin[base];
            if (best.tin >= 0) {
                tins.get(best.tin)[base] -= best.fromTin[base];
            }
        }
        order.ink = best.ink;
        order.inkColour = colour(best.ink);
        order.state = 1;
        mixedOnce = true;
        return best.gap;
    }

    int print(int job, int used, boolean chip) {
        Order order = order(job);
        argument(in(used, 1, order.grams));
        state(order.state == 1 && (used == order.grams || tins.size() < 30));
        order.onPaper = taken(order.ink, used);
        long[] left = new long[4];
        for (int base = 0; base < 4; base++) {
            left[base] = order.ink[base] - order.onPaper[base];
        }
        order.state = 2;
        order.chipDay = chip ? today : -1;
        runsPrinted.add(order);
        plate += 1 + used / 100;
        plate = plate >= 10 ? 0 : plate;
        if (sum(left) == 0) {
            return -1;
        }
        tins.add(left);
        return tins.size() - 1;
    }

    int pass(int days) {
        argument(in(days, 1, 100));
        state(today + days <= 10000);
        today += days;
        return today;
    }

    int state(int job) {
        return order(job).state;
    }

    int tins() {
        return tins.size();
    }

    int inTin(int tin, int base) {
        index(in(tin, 0, tins.size() - 1));
        argument(in(base, 0, 3));
        return (int) tins.get(tin)[base];
    }

    int shade(int tin, int part) {
        index(in(tin, 0, tins.size() - 1));
        argument(in(part, 0, 2));
        state(sum(tins.get(tin)) > 0);
        return (int) colour(tins.get(tin))[part];
    }

    int where(int base, int place) {
        argument(in(base, 0, 3) && in(place, 0, 3));
        long found = place == 0 ? stock[base] : 0;
        for (long[] tin : tins) {
            found += place == 1 ? tin[base] : 0;
        }
        for (Order order : orders) {
            found += place == 2 && order.state == 1 ? order.ink[base] : 0;
            found += place == 3 ? order.onPaper[base] : 0;
        }
        return (int) found;
    }

    int washes() {
        return (int) bestOrder()[0];
    }

    int washesByAll() {
        state(mixed().size() <= 7);
        return washes();
    }

    int firstRun() {
        return (int) bestOrder()[1];
    }

    int wear() {
        return plate;
    }

    int chipGap(int job, int other) {
        Order order = order(job);
        Order compared = order(other);
        state(order.chipDay >= 0 && compared.state != 0);
        long[] chip = order.inkColour.clone();
        for (int passed = 10; passed <= today - order.chipDay; passed += 10) {
            for (int part = 0; part < 3; part++) {
                chip[part] += chip[part] < 100 ? 1 : 0;
            }
        }
        return (int) gap(chip, compared.inkColour);
    }

    private Mixture best(Order order) {
        List<Mixture> all = new ArrayList<>();
        for (int tin = -1; tin < tins.size(); tin++) {
            for (int tenths = tin < 0 ? 0 : 1; tenths <= (tin < 0 ? 0 : 10); tenths++) {
                addMixtures(all, order, tin, tenths);
            }
        }
        return all.stream().min(AS_PREFERRED).orElse(null);
    }

    private void addMixtures(List<Mixture> all, Order order, int tin, int tinTenths) {
        long[] fromTin = new long[4];
        if (tin >= 0) {
            int grams = order.grams * tinTenths / 10;
            if (sum(tins.get(tin)) < 1000L * grams) {
                return;
            }
            fromTin = taken(tins.get(tin), grams);
        }
        int left = 10 - tinTenths;
        for (int three = 0; three <= left; three++) {
            for (int two = 0; two <= left - three; two++) {
                for (int one = 0; one <= left - three - two; one++) {
                    int[] tenths = {left - three - two - one, one, two, three};
                    addMixture(all, order, tin, tinTenths, fromTin, tenths);
                }
            }
        }
    }

    private void addMixture(List<Mixture> all, Order order, int tin, int tinTenths, long[] fromTin,
            int[] tenths) {
        Mixture mixture = new Mixture();
        mixture.tin = tin;
        mixture.tinTenths = tinTenths;
        mixture.tenths = tenths;
        mixture.fromTin = fromTin;
        mixture.ink = fromTin.clone();
        for (int base = 0; base < 4; base++) {
            long ofStock = 1000L * order.grams * tenths[base] / 10;
            if (ofStock > stock[base]) {
                return;
            }
            mixture.ink[base] += ofStock;
        }
        mixture.gap = (int) gap(colour(mixture.ink), order.colour);
        if (mixture.gap <= order.gap) {
            all.add(mixture);
        }
    }

    private static long[] taken(long[] ink, int grams) {
        long weight = sum(ink);
        long[] taken = new long[4];
        List<Integer> byRest = new ArrayList<>(List.of(0, 1, 2, 3));
        for (int base = 0; base < 4; base++) {
            taken[base] = Math.floorDiv(ink[base] * 1000 * grams, weight);
        }
        byRest.sort(Comparator.comparingLong(b -> -((ink[b] * 1000 * grams) % weight)));
        for (int next = 0; sum(taken) < 1000L * grams; next++) {
            taken[byRest.get(next)]++;
        }
        return taken;
    }

    private long[] colour(long[] ink) {
        long[] colour = new long[3];
        for (int part = 0; part < 3; part++) {
            for (int base = 0; base < 4; base++) {
                colour[part] += ink[base] * bases[base][part];
            }
            colour[part] /= sum(ink);
        }
        return colour;
    }

    private List<Integer> mixed() {
        List<Integer> mixed = new ArrayList<>();
        for (int job = 0; job < orders.size(); job++) {
            if (orders.get(job).state == 1) {
                mixed.add(job);
            }
        }
        return mixed;
    }

    private long[] bestOrder() {
        List<Integer> left = mixed();
        if (left.isEmpty()) {
            return new long[] {0, -1};
        }
        Order last = runsPrinted.isEmpty() ? null : runsPrinted.get(runsPrinted.size() - 1);
        return bestOrder(left, last);
    }

    /** The cost and the first run of the best order; the first one found of the same cost. */
    private long[] bestOrder(List<Integer> left, Order from) {
        long[] best = {left.isEmpty() ? 0 : Long.MAX_VALUE, -1};
        for (int i = 0; i < left.size(); i++) {
            List<Integer> rest = new ArrayList<>(left);
            Order next = orders.get(rest.remove(i));
            long cost = wash(from, next) + bestOrder(rest, next)[0];
            if (cost < best[0]) {
                best = new long[] {cost, left.get(i)};
            }
        }
        return best;
    }

    private static long wash(Order from, Order to) {
        if (from == null) {
            return 0;
        }
        boolean isBrighter = sum(to.inkColour) > sum(from.inkColour);
        return (isBrighter ? 2 : 1) * gap(from.inkColour, to.inkColour);
    }

    private static long gap(long[] one, long[] other) {
        long gap = 0;
        for (int part = 0; part < 3; part++) {
            gap += Math.abs(one[part] - other[part]);
        }
        return gap;
    }

    private static long sum(long[] all) {
        long sum = 0;
        for (long one : all) {
            sum += one;
        }
        return sum;
    }

    private Order order(int job) {
        index(in(job, 0, orders.size() - 1));
        return orders.get(job);
    }

    private static boolean in(int value, int least, int most) {
        return least <= value && value <= most;
    }

    private static void index(boolean holds) {
        if (!holds) {
            throw new IndexOutOfBoundsException();
        }
    }

    private static void argument(boolean holds) {
        if (!holds) {
            throw new IllegalArgumentException();
        }
    }

    private static void state(boolean holds) {
        if (!holds) {
            throw new IllegalStateException();
        }
    }
}
