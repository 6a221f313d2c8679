/** Long runs of calls on MissRegistry and on the slow model of it, answer by answer. */
public final class ModelTest {
    private static final int RUNS = 5000;
    private static final int CALLS = 512;
    private static final int[] ODD = {-2, -1, 10, 61, 100, Integer.MIN_VALUE, Integer.MAX_VALUE};
    private static final String[] NAMES = {"addPerson", "addWitness", "setHeir", "buyFate",
        "turnDuty", "miss", "hit", "pass", "night", "persons", "alive", "witnesses", "shaken",
        "fund", "refunded", "misses", "certified", "isAlive", "luckOf", "purseOf", "fatesOf",
        "heirOf", "lastHeirOf", "priceFor", "missesOf", "closestOf", "nerveOf", "isOnDuty",
        "wouldTell", "personOf", "inchesOf", "sealOf", "wouldCertify", "wouldRefund",
        "missesUntilShaken", "nightsUntilCalm", "steadiest", "luckiest", "meanLuck", "digest"};

    private static long seed = 1951;

    private interface Asked {
        long answer();
    }

    public static void main(String[] args) {
        Check check = new Check();
        for (int run = 0; run < RUNS; run++) {
            runOnce(check, run);
        }
        check.end();
    }

    private static void runOnce(Check check, int run) {
        MissRegistry x = new MissRegistry();
        Model model = new Model();
        // Some runs hit nobody or let few nights pass, so that misses and shaken ones pile up.
        int hits = next(4);
        int passes = next(4);
        int call = 0;
        // The digest behind a change is a call too, and the document promises no 513th.
        while (call < CALLS - 1) {
            int which = next(3) == 0 ? 8 + next(32) : pick(hits, passes);
            int a = first(which);
            int b = second(which);
            String what = "run " + run + ", call " + call + ": " + NAMES[which]
                    + "(" + a + ", " + b + ")";
            String due = told(() -> model.call(which, a, b));
            String got = told(() -> call(x, which, a, b));
            check.sameText(what, due, got);
            call++;
            if (which < 8) {
                check.same(what + ", digest behind it", model.call(39, 0, 0), x.digest());
                call++;
            }
        }
    }

    private static int pick(int hits, int passes) {
        int which = next(8);
        if (which == 6 && next(8) >= hits || which == 7 && next(4) >= passes) {
            return 5;
        }
        return which;
    }

    private static int first(int which) {
        if (next(25) == 0) {
            return ODD[next(ODD.length)];
        }
        switch (which) {
            case 0: return next(3) == 0 ? 90 + next(10) : next(100);
            case 1: return next(10);
            case 4: case 26: case 27: case 28: return next(6);
            case 7: return next(3) == 0 ? 1 + next(30) : 1 + next(3);
            case 29: case 30: case 31: return next(60);
            case 32: case 34: return someInches();
            default: return next(10);
        }
    }

    private static int second(int which) {
        if (next(25) == 0) {
            return ODD[next(ODD.length)];
        }
        return which == 2 ? next(11) - 1 : someInches();
    }

    private static int someInches() {
        return next(2) == 0 ? next(30) : next(62);
    }

    private static int next(int bound) {
        seed = seed * 6364136223846793005L + 1442695040888963407L;
        return (int) ((seed >>> 33) % bound);
    }

    private static String told(Asked asked) {
        try {
            return Long.toString(asked.answer());
        } catch (RuntimeException e) {
            return "throws." + e.getClass().getSimpleName();
        }
    }

    private static long call(MissRegistry x, int which, int a, int b) {
        switch (which) {
            case 0: return x.addPerson(a);
            case 1: return x.addWitness(a);
            case 2: return x.setHeir(a, b);
            case 3: return x.buyFate(a);
            case 4: return x.turnDuty(a) ? 1 : 0;
            case 5: return x.miss(a, b);
            case 6: return x.hit(a);
            case 7: return x.pass(a);
            case 8: return x.night();
            case 9: return x.persons();
            case 10: return x.alive();
            case 11: return x.witnesses();
            case 12: return x.shaken();
            case 13: return x.fund();
            case 14: return x.refunded();
            case 15: return x.misses();
            case 16: return x.certified();
            case 17: return x.isAlive(a) ? 1 : 0;
            case 18: return x.luckOf(a);
            case 19: return x.purseOf(a);
            case 20: return x.fatesOf(a);
            case 21: return x.heirOf(a);
            case 22: return x.lastHeirOf(a);
            case 23: return x.priceFor(a);
            case 24: return x.missesOf(a);
            case 25: return x.closestOf(a);
            case 26: return x.nerveOf(a);
            case 27: return x.isOnDuty(a) ? 1 : 0;
            case 28: return x.wouldTell(a, b);
            case 29: return x.personOf(a);
            case 30: return x.inchesOf(a);
            case 31: return x.sealOf(a);
            case 32: return x.wouldCertify(a);
            case 33: return x.wouldRefund(a, b);
            case 34: return x.missesUntilShaken(a);
            case 35: return x.nightsUntilCalm();
            case 36: return x.steadiest();
            case 37: return x.luckiest();
            case 38: return Double.doubleToLongBits(x.meanLuck());
            default: return x.digest();
        }
    }
}
