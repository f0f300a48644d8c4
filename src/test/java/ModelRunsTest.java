/** Runs of up to 512 calls whose answers are compared with those of the model, call by call. */
final class ModelRunsTest {
    private ModelRunsTest() {
    }

    static void runsOfAllCalls() {
        for (int seed = 0; seed < 60; seed++) {
            run(seed, 500, 300, 5000);
        }
    }

    static void runsWithSmallJobsAndScarceBases() {
        for (int seed = 100; seed < 160; seed++) {
            run(seed, 40, 300, 30);
        }
    }

    static void runsWithSmallGaps() {
        for (int seed = 200; seed < 260; seed++) {
            run(seed, 100, 60, 400);
        }
    }

    static void runsWithBasesOfFewColours() {
        for (int seed = 300; seed < 360; seed++) {
            Pair pair = new Pair();
            Dice dice = new Dice(seed);
            for (int base = 0; base < 4; base++) {
                pair.setBase(base, 50 * dice.below(3), 10 * dice.below(2), 10);
                pair.buy(base, dice.between(10, 60));
            }
            while (pair.mayCall()) {
                change(pair, dice, 60, 200, 20);
                ask(pair, dice);
            }
        }
    }

    /** Each job is printed before the next one is mixed, so that inks come from tins of tins. */
    static void runsFromTinToTin() {
        for (int seed = 400; seed < 480; seed++) {
            Pair pair = new Pair();
            Dice dice = new Dice(seed);
            for (int base = 0; base < 4; base++) {
                pair.buy(base, dice.between(5, 60));
            }
            for (int job = 0; job < 16; job++) {
                int grams = 10 * dice.between(1, 3);
                pair.job(dice.below(101), dice.below(101), dice.below(101), grams, 300);
                pair.recipe(job, dice.below(7));
                pair.mix(job);
                pair.print(job, grams - dice.between(1, 9), dice.below(2) == 0);
                for (int base = 0; base < 4; base++) {
                    pair.inTin(pair.tinsLeft() - 1, base);
                    pair.where(base, dice.between(1, 3));
                }
                for (int part = 0; part < 3; part++) {
                    pair.shade(dice.below(job + 1), part);
                }
                pair.buy(dice.below(4), dice.between(1, 9));
            }
        }
    }

    private static void run(int seed, int grams, int gap, int buys) {
        Pair pair = new Pair();
        Dice dice = new Dice(seed);
        while (pair.mayCall()) {
            if (dice.below(3) == 0) {
                change(pair, dice, grams, gap, buys);
            } else {
                ask(pair, dice);
            }
        }
    }

    private static void change(Pair pair, Dice dice, int grams, int gap, int buys) {
        int job = aJob(pair, dice);
        switch (dice.below(10)) {
            case 0:
                pair.setBase(dice.about(0, 3), dice.about(0, 100), dice.about(0, 100),
                        dice.about(0, 100));
                break;
            case 1:
            case 2:
                pair.buy(dice.about(0, 3), dice.about(1, buys));
                break;
            case 3:
            case 4:
                int odd = dice.below(20) == 0 ? 1 : 0;
                pair.job(dice.about(0, 100), dice.about(0, 100), dice.about(0, 100),
                        10 * dice.between(1, grams / 10) + odd, dice.about(gap / 2, gap));
                break;
            case 5:
                pair.pass(dice.about(1, 100));
                break;
            case 6:
            case 7:
                pair.print(job, dice.about(1, grams), dice.below(2) == 0);
                break;
            default:
                pair.mix(job);
                break;
        }
    }

    private static void ask(Pair pair, Dice dice) {
        int job = aJob(pair, dice);
        int tin = dice.about(0, Math.max(1, pair.tinsLeft()) - 1);
        int base = dice.about(0, 3);
        switch (dice.below(12)) {
            case 0:
                pair.state(job);
                break;
            case 1:
                pair.tins();
                break;
            case 2:
                pair.inTin(tin, base);
                break;
            case 3:
                pair.shade(tin, dice.about(0, 2));
                break;
            case 4:
                pair.where(base, dice.about(0, 3));
                break;
            case 5:
                pair.washes();
                break;
            case 6:
                pair.washesByAll();
                break;
            case 7:
                pair.firstRun();
                break;
            case 8:
                pair.wear();
                break;
            case 9:
                pair.chipGap(job, aJob(pair, dice));
                break;
            default:
                pair.recipe(job, dice.about(0, 6));
                break;
        }
    }

    private static int aJob(Pair pair, Dice dice) {
        return dice.about(0, Math.max(1, pair.jobs()) - 1);
    }
}
