/** One method a promise: ordinary inputs, the edges that the document names, wrong inputs. */
public final class PromisesTest {
    private static final int[] NO_INDEX = {-1, 2, Integer.MIN_VALUE, Integer.MAX_VALUE};
    private static final int[] NO_INCHES = {0, 61, -1, Integer.MIN_VALUE, Integer.MAX_VALUE};

    private static final Check CHECK = new Check();

    public static void main(String[] args) {
        p01NewObject();
        p02AddPerson();
        p03AddWitness();
        p04SetHeir();
        p04SetHeirRefused();
        p05BuyFate();
        p05BuyFateRefused();
        p06TurnDuty();
        p07MissAsTold();
        p07MissLuck();
        p07MissNerve();
        p07MissRefund();
        p07MissWithoutRefund();
        p07MissRefused();
        p08HitWithHeir();
        p08HitWithoutHeir();
        p08HitRefused();
        p09Pass();
        p10To18Counts();
        p19To27Persons();
        p24LastHeir();
        p25Price();
        p26And27MissesAndClosest();
        p28To30Witnesses();
        p31To33Misses();
        p33Seal();
        p34WouldCertify();
        p35WouldRefund();
        p36MissesUntilShaken();
        p37NightsUntilCalm();
        p38Steadiest();
        p39Luckiest();
        p40MeanLuck();
        p41Digest();
        p41DigestOfLatestMiss();
        fullRegistry();
        CHECK.end();
    }

    // ---- registries to start from

    private static MissRegistry withPersons(int... lucks) {
        MissRegistry x = new MissRegistry();
        for (int luck : lucks) {
            x.addPerson(luck);
        }
        return x;
    }

    private static MissRegistry withWitnesses(int... nerves) {
        return addWitnesses(new MissRegistry(), nerves);
    }

    private static MissRegistry addWitnesses(MissRegistry x, int... nerves) {
        for (int nerve : nerves) {
            x.addWitness(nerve);
        }
        return x;
    }

    private static MissRegistry twoPersonsTwoWitnesses() {
        return addWitnesses(withPersons(50, 60), 9, 9);
    }

    // ---- the promises

    private static void p01NewObject() {
        MissRegistry x = new MissRegistry();
        CHECK.same("new night", 0, x.night());
        CHECK.same("new persons", 0, x.persons());
        CHECK.same("new alive", 0, x.alive());
        CHECK.same("new witnesses", 0, x.witnesses());
        CHECK.same("new shaken", 0, x.shaken());
        CHECK.same("new fund", 0, x.fund());
        CHECK.same("new refunded", 0, x.refunded());
        CHECK.same("new misses", 0, x.misses());
        CHECK.same("new certified", 0, x.certified());
        CHECK.same("new wouldCertify", 0, x.wouldCertify(20));
        CHECK.same("new missesUntilShaken", 0, x.missesUntilShaken(1));
        CHECK.same("new nightsUntilCalm", 0, x.nightsUntilCalm());
        CHECK.same("new steadiest", -1, x.steadiest());
        CHECK.same("new luckiest", -1, x.luckiest());
        CHECK.sameDouble("new meanLuck", 0.0, x.meanLuck());
        x.addPerson(1);
        CHECK.same("persons of another object", 0, new MissRegistry().persons());
    }

    private static void p02AddPerson() {
        MissRegistry x = new MissRegistry();
        int[] none = {-1, 100, Integer.MIN_VALUE, Integer.MAX_VALUE};
        for (int luck : none) {
            CHECK.argumentRefused("addPerson(" + luck + ")", x, () -> x.addPerson(luck));
        }
        for (int i = 0; i < 10; i++) {
            CHECK.same("addPerson", i, x.addPerson(i * 11));
            CHECK.same("luck of a new one", i * 11, x.luckOf(i));
            CHECK.same("purse of a new one", 100, x.purseOf(i));
            CHECK.same("fates of a new one", 0, x.fatesOf(i));
            CHECK.same("heir of a new one", -1, x.heirOf(i));
            CHECK.same("last heir of a new one", -1, x.lastHeirOf(i));
            CHECK.same("a new one is alive", true, x.isAlive(i));
            CHECK.same("persons", i + 1, x.persons());
        }
        CHECK.stateRefused("addPerson, the 11th", x, () -> x.addPerson(5));
        CHECK.argumentRefused("addPerson, the 11th, luck 100", x, () -> x.addPerson(100));
        x.hit(0);
        CHECK.stateRefused("addPerson, one of 10 gone", x, () -> x.addPerson(5));
    }

    private static void p03AddWitness() {
        MissRegistry x = new MissRegistry();
        int[] none = {-1, 10, Integer.MIN_VALUE, Integer.MAX_VALUE};
        for (int nerve : none) {
            CHECK.argumentRefused("addWitness(" + nerve + ")", x, () -> x.addWitness(nerve));
        }
        int[] nerves = {0, 9, 2, 3, 1, 8};
        for (int i = 0; i < 6; i++) {
            CHECK.same("addWitness", i, x.addWitness(nerves[i]));
            CHECK.same("nerve of a new one", nerves[i], x.nerveOf(i));
            CHECK.same("a new one is on duty", true, x.isOnDuty(i));
            CHECK.same("witnesses", i + 1, x.witnesses());
        }
        CHECK.stateRefused("addWitness, the 7th", x, () -> x.addWitness(5));
        CHECK.argumentRefused("addWitness, the 7th, nerve 10", x, () -> x.addWitness(10));
    }

    private static void p04SetHeir() {
        MissRegistry x = withPersons(10, 20, 30);
        CHECK.same("setHeir(0, 1)", -1, x.setHeir(0, 1));
        CHECK.same("heirOf(0)", 1, x.heirOf(0));
        CHECK.same("setHeir(0, 2)", 1, x.setHeir(0, 2));
        CHECK.same("setHeir(0, 2) again", 2, x.setHeir(0, 2));
        CHECK.same("setHeir(0, -1)", 2, x.setHeir(0, -1));
        CHECK.same("heirOf(0), none", -1, x.heirOf(0));
        CHECK.same("setHeir(0, -1) again", -1, x.setHeir(0, -1));
        x.hit(2);
        CHECK.same("setHeir to one who is gone", -1, x.setHeir(0, 2));
        CHECK.same("heirOf(0), gone", 2, x.heirOf(0));
        CHECK.same("heirOf(1), untouched", -1, x.heirOf(1));
    }

    private static void p04SetHeirRefused() {
        MissRegistry x = withPersons(10, 20);
        for (int none : NO_INDEX) {
            CHECK.indexRefused("setHeir(" + none + ", 0)", x, () -> x.setHeir(none, 0));
            CHECK.indexRefused("setHeir(" + none + ", itself)", x, () -> x.setHeir(none, none));
            if (none != -1) {
                CHECK.indexRefused("setHeir(0, " + none + ")", x, () -> x.setHeir(0, none));
            }
        }
        CHECK.indexRefused("setHeir(0, -2)", x, () -> x.setHeir(0, -2));
        CHECK.argumentRefused("setHeir(1, 1)", x, () -> x.setHeir(1, 1));
        x.setHeir(1, 0);
        x.hit(1);
        CHECK.stateRefused("setHeir(1, 0), gone", x, () -> x.setHeir(1, 0));
        CHECK.stateRefused("setHeir(1, -1), gone", x, () -> x.setHeir(1, -1));
        CHECK.argumentRefused("setHeir(1, 1), gone", x, () -> x.setHeir(1, 1));
        CHECK.indexRefused("setHeir(1, 2), gone", x, () -> x.setHeir(1, 2));
    }

    private static void p05BuyFate() {
        MissRegistry x = withPersons(0, 50, 99, 89, 90);
        int[] prices = {14, 9, 5, 6, 5};
        int fund = 0;
        for (int p = 0; p < 5; p++) {
            CHECK.same("buyFate(" + p + ")", prices[p], x.buyFate(p));
            fund += prices[p];
            CHECK.same("purse", 100 - prices[p], x.purseOf(p));
            CHECK.same("fates", 1, x.fatesOf(p));
            CHECK.same("fund", fund, x.fund());
        }
        CHECK.same("refunded", 0, x.refunded());
    }

    private static void p05BuyFateRefused() {
        MissRegistry x = withPersons(99, 0);
        for (int none : NO_INDEX) {
            CHECK.indexRefused("buyFate(" + none + ")", x, () -> x.buyFate(none));
        }
        for (int i = 0; i < 9; i++) {
            CHECK.same("buyFate(0)", 5, x.buyFate(0));
        }
        CHECK.stateRefused("buyFate, the 10th", x, () -> x.buyFate(0));
        for (int i = 0; i < 7; i++) {
            CHECK.same("buyFate(1)", 14, x.buyFate(1));
        }
        CHECK.same("purse, too small", 2, x.purseOf(1));
        CHECK.stateRefused("buyFate, too few coins", x, () -> x.buyFate(1));
        x.hit(1);
        CHECK.stateRefused("buyFate, gone", x, () -> x.buyFate(1));

        MissRegistry y = withPersons(49);
        for (int i = 0; i < 9; i++) {
            CHECK.same("buyFate, luck 49", 10, y.buyFate(0));
        }
        CHECK.same("purse behind 9 fates", 10, y.purseOf(0));
        CHECK.stateRefused("buyFate, 9 fates, enough coins", y, () -> y.buyFate(0));

        MissRegistry z = withPersons(9);
        for (int i = 0; i < 6; i++) {
            CHECK.same("buyFate, luck 9", 14, z.buyFate(0));
        }
        z.pass(1);
        CHECK.same("buyFate, luck 10", 13, z.buyFate(0));
        CHECK.same("purse behind 7 fates", 3, z.purseOf(0));
        lastCoinBuys();
    }

    private static void lastCoinBuys() {
        MissRegistry x = withPersons(0);
        for (int i = 0; i < 4; i++) {
            x.buyFate(0);
        }
        x.pass(30);
        x.pass(11);
        CHECK.same("price at luck 41", 10, x.priceFor(0));
        x.buyFate(0);
        x.buyFate(0);
        x.pass(8);
        CHECK.same("purse at luck 49", 24, x.purseOf(0));
        x.buyFate(0);
        x.pass(30);
        CHECK.same("price at luck 79", 7, x.priceFor(0));
        CHECK.same("buyFate at luck 79", 7, x.buyFate(0));
        CHECK.same("purse at luck 79", 7, x.purseOf(0));
        CHECK.same("buyFate with the very last coins", 7, x.buyFate(0));
        CHECK.same("purse, empty", 0, x.purseOf(0));
    }

    private static void p06TurnDuty() {
        MissRegistry x = withWitnesses(5, 1);
        for (int none : NO_INDEX) {
            CHECK.indexRefused("turnDuty(" + none + ")", x, () -> x.turnDuty(none));
        }
        CHECK.same("turnDuty(0)", false, x.turnDuty(0));
        CHECK.same("isOnDuty(0)", false, x.isOnDuty(0));
        CHECK.same("isOnDuty(1)", true, x.isOnDuty(1));
        CHECK.same("turnDuty(0) again", true, x.turnDuty(0));
        CHECK.same("isOnDuty(0) again", true, x.isOnDuty(0));
        CHECK.same("nerveOf(0) untouched", 5, x.nerveOf(0));
        CHECK.same("turnDuty of a shaken one", false, x.turnDuty(1));
    }

    private static void p07MissAsTold() {
        MissRegistry x = addWitnesses(withPersons(50), 9, 4, 2, 6, 3);
        CHECK.same("middle of 17 18 19 20", 18, x.miss(0, 20));
        CHECK.same("misses", 1, x.misses());
        CHECK.same("certified", 1, x.certified());
        MissRegistry y = addWitnesses(withPersons(50), 2, 2);
        CHECK.same("miss with shaken ones alone", 0, y.miss(0, 20));
        CHECK.same("misses, not certified", 1, y.misses());
        CHECK.same("certified, not certified", 0, y.certified());
        y.addWitness(9);
        y.turnDuty(2);
        CHECK.same("miss with all others off duty", 0, y.miss(0, 20));
        y.turnDuty(2);
        CHECK.same("miss with one on duty", 20, y.miss(0, 20));
    }

    private static void p07MissLuck() {
        int[] inches = {60, 51, 50, 41, 40, 21, 20, 11, 10, 1};
        int[] losses = {0, 0, 1, 1, 2, 3, 4, 4, 5, 5};
        for (int i = 0; i < inches.length; i++) {
            MissRegistry x = withPersons(99, 99);
            x.miss(1, inches[i]);
            CHECK.same("luck behind miss " + inches[i], 99 - losses[i], x.luckOf(1));
            CHECK.same("luck of the other", 99, x.luckOf(0));
        }
        MissRegistry x = withPersons(5, 4, 6);
        x.miss(0, 1);
        x.miss(1, 1);
        x.miss(2, 1);
        CHECK.same("luck 5 behind miss 1", 0, x.luckOf(0));
        CHECK.same("luck 4 behind miss 1", 0, x.luckOf(1));
        CHECK.same("luck 6 behind miss 1", 1, x.luckOf(2));
        // The inches of the miss count here, not the certified ones.
        MissRegistry y = addWitnesses(withPersons(50), 7);
        CHECK.same("certified 50", 50, y.miss(0, 51));
        CHECK.same("luck behind miss 51", 50, y.luckOf(0));
    }

    private static void p07MissNerve() {
        int[] inches = {1, 5, 6, 12, 13, 60};
        int[] losses = {3, 3, 2, 2, 1, 1};
        for (int i = 0; i < inches.length; i++) {
            MissRegistry x = addWitnesses(withPersons(99), 9, 2, 0, 9, 3);
            x.turnDuty(3);
            x.miss(0, inches[i]);
            String what = "nerve behind miss " + inches[i];
            CHECK.same(what, 9 - losses[i], x.nerveOf(0));
            CHECK.same(what + ", shaken", Math.max(0, 2 - losses[i]), x.nerveOf(1));
            CHECK.same(what + ", at 0", 0, x.nerveOf(2));
            CHECK.same(what + ", off duty", 9, x.nerveOf(3));
            CHECK.same(what + ", at 3", 3 - losses[i], x.nerveOf(4));
        }
        // The inches of the miss count here, not the certified ones: 6 is certified as 3.
        MissRegistry y = addWitnesses(withPersons(99), 3);
        CHECK.same("certified 3", 3, y.miss(0, 6));
        CHECK.same("nerve behind miss 6", 1, y.nerveOf(0));
    }

    private static void p07MissRefund() {
        MissRegistry x = twoPersonsTwoWitnesses();
        x.buyFate(0);
        x.buyFate(1);
        x.buyFate(1);
        x.buyFate(1);
        int fund = 9 + 3 * 8;
        CHECK.same("fund", fund, x.fund());
        // Luck 50 costs 9, and 24 inches lack nothing to 24.
        CHECK.same("miss(0, 24)", 24, x.miss(0, 24));
        CHECK.same("fates", 0, x.fatesOf(0));
        CHECK.same("purse", 100, x.purseOf(0));
        CHECK.same("fund", fund - 9, x.fund());
        CHECK.same("refunded", 9, x.refunded());
        CHECK.same("luck", 47, x.luckOf(0));
        // Nerves are 8: 20 is told as 20; luck 60 costs 8, before the luck gets less.
        CHECK.same("miss(1, 20)", 20, x.miss(1, 20));
        CHECK.same("fates", 2, x.fatesOf(1));
        CHECK.same("purse", 76 + 12, x.purseOf(1));
        CHECK.same("fund", 12, x.fund());
        CHECK.same("refunded", 21, x.refunded());
        // The fund has less than what is asked, then nothing: the fate is used up all the same.
        CHECK.same("miss(1, 10)", 9, x.miss(1, 10));
        CHECK.same("fates", 1, x.fatesOf(1));
        CHECK.same("purse", 100, x.purseOf(1));
        CHECK.same("fund", 0, x.fund());
        CHECK.same("refunded", 33, x.refunded());
        CHECK.same("miss(1, 13)", 11, x.miss(1, 13));
        CHECK.same("fates", 0, x.fatesOf(1));
        CHECK.same("purse", 100, x.purseOf(1));
        CHECK.same("refunded", 33, x.refunded());
    }

    private static void p07MissWithoutRefund() {
        MissRegistry x = twoPersonsTwoWitnesses();
        x.buyFate(0);
        CHECK.same("miss(1, 20), no fate", 20, x.miss(1, 20));
        CHECK.same("fates of the other", 1, x.fatesOf(0));
        CHECK.same("purse, no fate", 100, x.purseOf(1));
        CHECK.same("fund, no fate", 9, x.fund());
        CHECK.same("miss(0, 25)", 25, x.miss(0, 25));
        CHECK.same("fates, 25 inches", 1, x.fatesOf(0));
        CHECK.same("fund, 25 inches", 9, x.fund());
        x.turnDuty(0);
        x.turnDuty(1);
        CHECK.same("miss(0, 1), not certified", 0, x.miss(0, 1));
        CHECK.same("fates, not certified", 1, x.fatesOf(0));
        CHECK.same("fund, not certified", 9, x.fund());
        CHECK.same("refunded", 0, x.refunded());
        // What is certified decides, not the inches of the miss: 25 is told as 24.
        MissRegistry y = addWitnesses(withPersons(99), 7);
        y.buyFate(0);
        CHECK.same("miss(0, 25) told as 24", 24, y.miss(0, 25));
        CHECK.same("refunded for 24", 5, y.refunded());
        CHECK.same("fates for 24", 0, y.fatesOf(0));
    }

    private static void p07MissRefused() {
        MissRegistry x = twoPersonsTwoWitnesses();
        for (int none : NO_INDEX) {
            CHECK.indexRefused("miss(" + none + ", 20)", x, () -> x.miss(none, 20));
            CHECK.indexRefused("miss(" + none + ", 0)", x, () -> x.miss(none, 0));
        }
        for (int none : NO_INCHES) {
            CHECK.argumentRefused("miss(0, " + none + ")", x, () -> x.miss(0, none));
        }
        x.hit(1);
        CHECK.stateRefused("miss(1, 20), gone", x, () -> x.miss(1, 20));
        CHECK.argumentRefused("miss(1, 0), gone", x, () -> x.miss(1, 0));
        for (int i = 0; i < 60; i++) {
            x.miss(0, 60 - i);
            CHECK.same("misses", i + 1, x.misses());
        }
        CHECK.stateRefused("miss, the 61st", x, () -> x.miss(0, 20));
        CHECK.argumentRefused("miss, the 61st, 61 inches", x, () -> x.miss(0, 61));
        CHECK.indexRefused("miss, the 61st, nobody's", x, () -> x.miss(2, 20));
        CHECK.same("the last one", 0, x.personOf(59));
    }

    private static void p08HitWithHeir() {
        MissRegistry x = withPersons(51, 20, 30);
        x.setHeir(0, 1);
        x.setHeir(1, 2);
        x.buyFate(0);
        x.buyFate(1);
        CHECK.same("hit(0)", 1, x.hit(0));
        CHECK.same("alive", false, x.isAlive(0));
        CHECK.same("luck of the heir", 20 + 25, x.luckOf(1));
        CHECK.same("luck of the gone", 51, x.luckOf(0));
        CHECK.same("purse of the heir", 88 + 91, x.purseOf(1));
        CHECK.same("purse of the gone", 0, x.purseOf(0));
        CHECK.same("fates of the gone", 0, x.fatesOf(0));
        CHECK.same("fates of the heir", 1, x.fatesOf(1));
        CHECK.same("heir of the gone", 1, x.heirOf(0));
        CHECK.same("fund", 9 + 12, x.fund());
        CHECK.same("refunded", 0, x.refunded());
        CHECK.same("hit(1)", 2, x.hit(1));
        CHECK.same("luck of the last heir", 30 + 22, x.luckOf(2));
        CHECK.same("purse of the last heir", 279, x.purseOf(2));

        MissRegistry y = withPersons(99, 51, 50);
        y.setHeir(0, 1);
        y.hit(1);
        y.setHeir(0, 2);
        y.hit(0);
        CHECK.same("luck 50 and 49", 99, y.luckOf(2));
        MissRegistry z = withPersons(99, 51);
        z.setHeir(0, 1);
        z.hit(0);
        CHECK.same("luck 51 and 49", 99, z.luckOf(1));
    }

    private static void p08HitWithoutHeir() {
        MissRegistry x = withPersons(50, 20, 30);
        CHECK.same("hit(0), no heir", -1, x.hit(0));
        CHECK.same("fund", 100, x.fund());
        CHECK.same("purse", 0, x.purseOf(0));
        x.setHeir(1, 0);
        CHECK.same("hit(1), the heir is gone", -1, x.hit(1));
        CHECK.same("fund", 200, x.fund());
        CHECK.same("luck of the gone heir", 50, x.luckOf(0));
        CHECK.same("purse of the gone heir", 0, x.purseOf(0));
        CHECK.same("luck of another", 30, x.luckOf(2));

        // The way comes back to the person: this one is no heir of itself.
        MissRegistry y = withPersons(50, 20);
        y.setHeir(0, 1);
        y.setHeir(1, 0);
        y.hit(1);
        CHECK.same("hit(0), the way comes back", -1, y.hit(0));
        CHECK.same("luck", 60, y.luckOf(0));
        CHECK.same("fund", 200, y.fund());
    }

    private static void p08HitRefused() {
        MissRegistry x = withPersons(50, 20);
        for (int none : NO_INDEX) {
            CHECK.indexRefused("hit(" + none + ")", x, () -> x.hit(none));
        }
        x.hit(0);
        CHECK.stateRefused("hit(0), gone", x, () -> x.hit(0));
    }

    private static void p09Pass() {
        MissRegistry x = addWitnesses(withPersons(50, 98, 99, 40), 0, 0, 9, 8, 2);
        int[] none = {0, 31, -1, Integer.MIN_VALUE, Integer.MAX_VALUE};
        for (int nights : none) {
            CHECK.argumentRefused("pass(" + nights + ")", x, () -> x.pass(nights));
        }
        x.hit(3);
        x.turnDuty(1);
        x.turnDuty(3);
        CHECK.same("pass(1)", 2, x.pass(1));
        CHECK.same("night", 1, x.night());
        int[] nerves = {1, 2, 9, 9, 3};
        for (int w = 0; w < 5; w++) {
            CHECK.same("nerve of " + w, nerves[w], x.nerveOf(w));
        }
        int[] lucks = {51, 99, 99, 40};
        for (int p = 0; p < 4; p++) {
            CHECK.same("luck of " + p, lucks[p], x.luckOf(p));
        }
        CHECK.same("pass(1) again", 1, x.pass(1));
        CHECK.same("pass(30)", 0, x.pass(30));
        CHECK.same("night", 32, x.night());
        CHECK.same("nerve at most 9", 9, x.nerveOf(0));
        CHECK.same("luck 82", 82, x.luckOf(0));
        CHECK.same("luck of the gone", 40, x.luckOf(3));
        CHECK.same("purse", 100, x.purseOf(0));
        CHECK.same("misses", 0, x.misses());
    }

    private static void p10To18Counts() {
        MissRegistry x = addWitnesses(withPersons(50, 99, 10), 9, 3, 2, 0);
        CHECK.same("shaken at first", 2, x.shaken());
        x.turnDuty(3);
        CHECK.same("shaken, one of them off duty", 2, x.shaken());
        x.buyFate(0);
        x.buyFate(1);
        CHECK.same("fund", 9 + 5, x.fund());
        x.miss(0, 22);
        CHECK.same("refunded", 9 + 5, x.refunded());
        CHECK.same("fund behind", 0, x.fund());
        CHECK.same("shaken behind", 3, x.shaken());
        x.hit(2);
        CHECK.same("persons", 3, x.persons());
        CHECK.same("alive", 2, x.alive());
        CHECK.same("witnesses", 4, x.witnesses());
        CHECK.same("fund of the gone", 100, x.fund());
        x.turnDuty(0);
        x.miss(1, 30);
        CHECK.same("misses", 2, x.misses());
        CHECK.same("certified", 1, x.certified());
        CHECK.same("night", 0, x.night());
        x.pass(3);
        x.pass(4);
        CHECK.same("night behind", 7, x.night());
        CHECK.same("persons behind", 3, x.persons());
    }

    private static void p19To27Persons() {
        MissRegistry x = withPersons(50, 60);
        for (int none : NO_INDEX) {
            CHECK.indexRefused("isAlive(" + none + ")", x, () -> x.isAlive(none));
            CHECK.indexRefused("luckOf(" + none + ")", x, () -> x.luckOf(none));
            CHECK.indexRefused("purseOf(" + none + ")", x, () -> x.purseOf(none));
            CHECK.indexRefused("fatesOf(" + none + ")", x, () -> x.fatesOf(none));
            CHECK.indexRefused("heirOf(" + none + ")", x, () -> x.heirOf(none));
            CHECK.indexRefused("lastHeirOf(" + none + ")", x, () -> x.lastHeirOf(none));
            CHECK.indexRefused("priceFor(" + none + ")", x, () -> x.priceFor(none));
            CHECK.indexRefused("missesOf(" + none + ")", x, () -> x.missesOf(none));
            CHECK.indexRefused("closestOf(" + none + ")", x, () -> x.closestOf(none));
        }
        x.hit(0);
        CHECK.same("isAlive(0)", false, x.isAlive(0));
        CHECK.same("isAlive(1)", true, x.isAlive(1));
        CHECK.same("luckOf(0)", 50, x.luckOf(0));
        CHECK.same("purseOf(0)", 0, x.purseOf(0));
        CHECK.same("purseOf(1)", 100, x.purseOf(1));
        CHECK.same("fatesOf(0)", 0, x.fatesOf(0));
        CHECK.same("heirOf(0)", -1, x.heirOf(0));
        CHECK.same("priceFor(0), gone", 9, x.priceFor(0));
    }

    private static void p24LastHeir() {
        MissRegistry x = withPersons(0, 0, 0, 0, 0, 0, 0, 0, 0, 0);
        for (int p = 0; p < 9; p++) {
            x.setHeir(p, p + 1);
        }
        for (int p = 1; p < 9; p++) {
            CHECK.same("last heir, all ahead gone", p, x.lastHeirOf(0));
            x.hit(p);
        }
        CHECK.same("last heir at the end of 9 steps", 9, x.lastHeirOf(0));
        CHECK.same("last heir of one who is gone", 9, x.lastHeirOf(5));
        x.hit(9);
        CHECK.same("last heir, all gone, no heir at the end", -1, x.lastHeirOf(0));

        MissRegistry y = withPersons(0, 0, 0, 0);
        y.setHeir(0, 1);
        y.setHeir(1, 2);
        y.setHeir(2, 1);
        y.setHeir(3, 0);
        CHECK.same("last heir, alive on a ring", 1, y.lastHeirOf(0));
        y.hit(1);
        CHECK.same("last heir, other on a ring", 2, y.lastHeirOf(0));
        CHECK.same("last heir back to the person", -1, y.lastHeirOf(2));
        CHECK.same("last heir of the gone", 2, y.lastHeirOf(1));
        y.hit(2);
        CHECK.same("last heir, somebody a second time", -1, y.lastHeirOf(0));
        CHECK.same("last heir ahead of the ring", 0, y.lastHeirOf(3));
        CHECK.same("last heir back to one who is gone", -1, y.lastHeirOf(1));
    }

    private static void p25Price() {
        int[] lucks = {99, 90, 89, 80, 79, 50, 49, 10, 9, 0};
        int[] prices = {5, 5, 6, 6, 7, 9, 10, 13, 14, 14};
        MissRegistry x = withPersons(lucks);
        for (int p = 0; p < lucks.length; p++) {
            CHECK.same("priceFor, luck " + lucks[p], prices[p], x.priceFor(p));
        }
        x.pass(1);
        CHECK.same("priceFor, luck 80", 6, x.priceFor(4));
    }

    private static void p26And27MissesAndClosest() {
        MissRegistry x = addWitnesses(withPersons(50, 60, 70), 9);
        CHECK.same("closestOf, no miss", 0, x.closestOf(0));
        x.miss(0, 30);
        x.miss(1, 3);
        x.miss(0, 40);
        CHECK.same("closestOf(0)", 30, x.closestOf(0));
        CHECK.same("closestOf(1)", 3, x.closestOf(1));
        x.turnDuty(0);
        x.miss(0, 1);
        x.miss(2, 1);
        CHECK.same("closestOf(0), the next not certified", 30, x.closestOf(0));
        CHECK.same("closestOf(2), none certified", 0, x.closestOf(2));
        x.turnDuty(0);
        CHECK.same("miss(0, 28)", 26, x.miss(0, 28));
        CHECK.same("closestOf(0), the certified inches", 26, x.closestOf(0));
        CHECK.same("missesOf(0)", 4, x.missesOf(0));
        CHECK.same("missesOf(1)", 1, x.missesOf(1));
        CHECK.same("missesOf(2)", 1, x.missesOf(2));
        CHECK.same("miss(2, 2)", 1, x.miss(2, 2));
        CHECK.same("closestOf(2), 1 inch", 1, x.closestOf(2));
        CHECK.same("certified, 1 inch as well", 5, x.certified());
        x.hit(0);
        CHECK.same("missesOf(0), gone", 4, x.missesOf(0));
        CHECK.same("closestOf(0), gone", 26, x.closestOf(0));
    }

    private static void p28To30Witnesses() {
        MissRegistry x = withWitnesses(9, 3);
        for (int none : NO_INDEX) {
            CHECK.indexRefused("nerveOf(" + none + ")", x, () -> x.nerveOf(none));
            CHECK.indexRefused("isOnDuty(" + none + ")", x, () -> x.isOnDuty(none));
            CHECK.indexRefused("wouldTell(" + none + ", 5)", x, () -> x.wouldTell(none, 5));
            CHECK.indexRefused("wouldTell(" + none + ", 0)", x, () -> x.wouldTell(none, 0));
        }
        for (int none : NO_INCHES) {
            CHECK.argumentRefused("wouldTell(0, " + none + ")", x, () -> x.wouldTell(0, none));
        }
        int[] fewer = {3, 2, 2, 1, 1, 0, 0};
        for (int nerve = 3; nerve <= 9; nerve++) {
            MissRegistry y = withWitnesses(nerve);
            for (int inches = 1; inches <= 60; inches++) {
                int due = Math.max(1, inches - fewer[nerve - 3]);
                CHECK.same("wouldTell, nerve " + nerve, due, y.wouldTell(0, inches));
            }
            y.turnDuty(0);
            CHECK.same("wouldTell off duty", 30 - fewer[nerve - 3], y.wouldTell(0, 30));
            CHECK.same("isOnDuty", false, y.isOnDuty(0));
            CHECK.same("nerveOf", nerve, y.nerveOf(0));
        }
        for (int nerve = 0; nerve <= 2; nerve++) {
            MissRegistry y = withWitnesses(nerve);
            CHECK.same("wouldTell, shaken", 0, y.wouldTell(0, 60));
            y.turnDuty(0);
            CHECK.same("wouldTell, shaken, off duty", 0, y.wouldTell(0, 60));
        }
    }

    private static void p31To33Misses() {
        MissRegistry x = twoPersonsTwoWitnesses();
        CHECK.indexRefused("personOf(0), no miss", x, () -> x.personOf(0));
        CHECK.indexRefused("inchesOf(0), no miss", x, () -> x.inchesOf(0));
        CHECK.indexRefused("sealOf(0), no miss", x, () -> x.sealOf(0));
        x.miss(1, 33);
        x.miss(0, 60);
        for (int none : NO_INDEX) {
            CHECK.indexRefused("personOf(" + none + ")", x, () -> x.personOf(none));
            CHECK.indexRefused("inchesOf(" + none + ")", x, () -> x.inchesOf(none));
            CHECK.indexRefused("sealOf(" + none + ")", x, () -> x.sealOf(none));
        }
        x.turnDuty(0);
        x.turnDuty(1);
        x.miss(1, 44);
        int[] persons = {1, 0, 1};
        int[] inches = {33, 60, 0};
        for (int m = 0; m < 3; m++) {
            CHECK.same("personOf(" + m + ")", persons[m], x.personOf(m));
            CHECK.same("inchesOf(" + m + ")", inches[m], x.inchesOf(m));
            CHECK.same("sealOf(" + m + ")", seal(persons[m], inches[m]), x.sealOf(m));
        }
    }

    private static void p33Seal() {
        MissRegistry x = addWitnesses(withPersons(0, 0, 0, 0, 0, 0, 0, 0, 0, 0), 9);
        int[] inches = {60, 59, 10, 11, 9, 1, 2, 20, 24, 25};
        for (int p = 0; p < 10; p++) {
            CHECK.same("miss", inches[p], x.miss(p, inches[p]));
            CHECK.same("sealOf(" + p + ")", seal(p, inches[p]), x.sealOf(p));
            x.pass(3);
        }
        x.turnDuty(0);
        for (int p = 0; p < 10; p++) {
            x.miss(p, inches[p]);
            CHECK.same("sealOf, not certified", seal(p, 0), x.sealOf(10 + p));
        }
    }

    private static int seal(int person, int inches) {
        String told = inches == 0 ? "not certified" : inches + " inches";
        String text = "person " + person + ": " + told;
        int seal = 7;
        for (char letter : text.toCharArray()) {
            seal = seal * 31 + letter;
        }
        return seal;
    }

    private static void p34WouldCertify() {
        MissRegistry x = withWitnesses(9, 3, 5, 2, 7);
        for (int none : NO_INCHES) {
            CHECK.argumentRefused("wouldCertify(" + none + ")", x, () -> x.wouldCertify(none));
        }
        CHECK.same("middle of 17 18 19 20", 18, x.wouldCertify(20));
        x.turnDuty(1);
        CHECK.same("middle of 18 19 20", 19, x.wouldCertify(20));
        x.turnDuty(2);
        CHECK.same("smaller of 19 20", 19, x.wouldCertify(20));
        x.turnDuty(4);
        CHECK.same("20 alone", 20, x.wouldCertify(20));
        x.turnDuty(0);
        CHECK.same("a shaken one alone", 0, x.wouldCertify(20));
        x.turnDuty(1);
        CHECK.same("17 alone", 17, x.wouldCertify(20));
        CHECK.same("at least 1", 1, x.wouldCertify(3));
        CHECK.same("60 told as 57", 57, x.wouldCertify(60));
        CHECK.same("nerve untouched", 3, x.nerveOf(1));
        CHECK.same("no miss", 0, x.misses());

        MissRegistry y = withWitnesses(3, 9, 5, 8, 7, 6);
        CHECK.same("middle of 27 28 29 29 30 30", 29, y.wouldCertify(30));
        MissRegistry z = withWitnesses(9, 9, 3, 3, 3);
        CHECK.same("middle of 27 27 27 30 30", 27, z.wouldCertify(30));
    }

    private static void p35WouldRefund() {
        MissRegistry x = twoPersonsTwoWitnesses();
        for (int none : NO_INDEX) {
            CHECK.indexRefused("wouldRefund(" + none + ", 5)", x, () -> x.wouldRefund(none, 5));
            CHECK.indexRefused("wouldRefund(" + none + ", 0)", x, () -> x.wouldRefund(none, 0));
        }
        for (int none : NO_INCHES) {
            CHECK.argumentRefused("wouldRefund(0, " + none + ")", x,
                    () -> x.wouldRefund(0, none));
        }
        CHECK.same("without a fate", 0, x.wouldRefund(0, 20));
        for (int i = 0; i < 4; i++) {
            x.buyFate(0);
        }
        CHECK.same("24 inches", 9, x.wouldRefund(0, 24));
        CHECK.same("25 inches", 0, x.wouldRefund(0, 25));
        CHECK.same("23 inches", 10, x.wouldRefund(0, 23));
        CHECK.same("1 inch", 9 + 23, x.wouldRefund(0, 1));
        CHECK.same("the other has no fate", 0, x.wouldRefund(1, 1));
        CHECK.same("fates untouched", 4, x.fatesOf(0));
        CHECK.same("fund untouched", 36, x.fund());
        x.miss(0, 10);
        CHECK.same("no more than the fund has", 36 - 23, x.wouldRefund(0, 2));
        x.turnDuty(0);
        x.turnDuty(1);
        CHECK.same("not certified", 0, x.wouldRefund(0, 2));
        x.turnDuty(0);
        x.hit(0);
        CHECK.same("gone", 0, x.wouldRefund(0, 2));
        CHECK.argumentRefused("wouldRefund(0, 61), gone", x, () -> x.wouldRefund(0, 61));
    }

    private static void p36MissesUntilShaken() {
        MissRegistry x = withWitnesses(3, 9);
        for (int none : NO_INCHES) {
            CHECK.argumentRefused("missesUntilShaken(" + none + ")", x,
                    () -> x.missesUntilShaken(none));
        }
        x.turnDuty(0);
        x.turnDuty(1);
        CHECK.same("nobody on duty", 0, x.missesUntilShaken(1));
        int[] inches = {1, 5, 6, 12, 13, 60};
        for (int nerve = 0; nerve <= 9; nerve++) {
            for (int each : inches) {
                MissRegistry y = addWitnesses(withPersons(0), 9, nerve, 1, nerve);
                y.turnDuty(0);
                CHECK.same("missesUntilShaken, nerve " + nerve + ", " + each + " inches",
                        triedMisses(nerve, each), y.missesUntilShaken(each));
                CHECK.same("no miss", 0, y.misses());
            }
        }
        MissRegistry z = withWitnesses(3, 9, 4);
        CHECK.same("9 by 1", 7, z.missesUntilShaken(60));
        CHECK.same("9 by 2", 4, z.missesUntilShaken(12));
        CHECK.same("9 by 3", 3, z.missesUntilShaken(5));
    }

    private static int triedMisses(int nerve, int inches) {
        MissRegistry x = addWitnesses(withPersons(0), nerve);
        int count = 0;
        while (x.shaken() == 0) {
            x.miss(0, inches);
            count++;
        }
        return count;
    }

    private static void p37NightsUntilCalm() {
        int[] onDuty = {3, 2, 1, 0, 0, 0, 0, 0, 0, 0};
        int[] offDuty = {2, 1, 1, 0, 0, 0, 0, 0, 0, 0};
        for (int nerve = 0; nerve <= 9; nerve++) {
            MissRegistry x = withWitnesses(9, nerve);
            CHECK.same("on duty, nerve " + nerve, onDuty[nerve], x.nightsUntilCalm());
            x.turnDuty(1);
            CHECK.same("off duty, nerve " + nerve, offDuty[nerve], x.nightsUntilCalm());
        }
        MissRegistry y = withWitnesses(0, 1);
        CHECK.same("0 and 1", 3, y.nightsUntilCalm());
        y.turnDuty(0);
        CHECK.same("0 off duty and 1", 2, y.nightsUntilCalm());
        y.turnDuty(0);
        y.turnDuty(1);
        CHECK.same("0 and 1 off duty", 3, y.nightsUntilCalm());
        CHECK.same("no night", 0, y.night());
    }

    private static void p38Steadiest() {
        MissRegistry x = withWitnesses(4, 8, 8, 9);
        CHECK.same("steadiest", 3, x.steadiest());
        x.turnDuty(3);
        CHECK.same("steadiest, of several", 1, x.steadiest());
        x.turnDuty(1);
        CHECK.same("steadiest, another", 2, x.steadiest());
        x.turnDuty(2);
        CHECK.same("steadiest, the last", 0, x.steadiest());
        x.turnDuty(0);
        CHECK.same("steadiest, nobody", -1, x.steadiest());
        MissRegistry y = withWitnesses(0, 0);
        CHECK.same("steadiest, shaken at 0", 0, y.steadiest());
    }

    private static void p39Luckiest() {
        MissRegistry x = withPersons(10, 70, 70, 99);
        CHECK.same("luckiest", 3, x.luckiest());
        x.hit(3);
        CHECK.same("luckiest, of several", 1, x.luckiest());
        x.hit(1);
        CHECK.same("luckiest, another", 2, x.luckiest());
        x.hit(2);
        CHECK.same("luckiest, the last", 0, x.luckiest());
        x.hit(0);
        CHECK.same("luckiest, nobody", -1, x.luckiest());
        CHECK.same("luckiest, luck 0", 0, withPersons(0, 0).luckiest());
    }

    private static void p40MeanLuck() {
        MissRegistry x = withPersons(10, 15, 51);
        CHECK.sameDouble("meanLuck of three", 76.0 / 3.0, x.meanLuck());
        x.hit(2);
        CHECK.sameDouble("meanLuck of two", 12.5, x.meanLuck());
        x.hit(0);
        CHECK.sameDouble("meanLuck of one", 15.0, x.meanLuck());
        x.hit(1);
        CHECK.sameDouble("meanLuck of none", 0.0, x.meanLuck());
        CHECK.sameDouble("meanLuck 0", 0.0, withPersons(0).meanLuck());
    }

    private static void p41Digest() {
        MissRegistry x = new MissRegistry();
        CHECK.same("digest, new", digest(x), x.digest());
        addWitnesses(x, 9, 4, 1);
        x.addPerson(50);
        x.addPerson(70);
        x.setHeir(0, 1);
        x.turnDuty(1);
        CHECK.same("digest, no miss", digest(x), x.digest());
        x.buyFate(0);
        x.miss(0, 15);
        x.miss(1, 40);
        CHECK.same("digest, misses", digest(x), x.digest());
        x.hit(0);
        x.pass(2);
        CHECK.same("digest, gone", digest(x), x.digest());
        x.turnDuty(0);
        x.turnDuty(2);
        x.miss(1, 2);
        CHECK.same("digest, not certified", digest(x), x.digest());
    }

    private static void p41DigestOfLatestMiss() {
        for (int misses = 1; misses <= 60; misses++) {
            MissRegistry x = addWitnesses(withPersons(50, 60), 9);
            for (int i = 0; i < misses; i++) {
                x.pass(1);
                x.miss(i % 2, 60 - i);
            }
            CHECK.same("digest, misses " + misses, digest(x), x.digest());
        }
    }

    /** Every call, where all rows are filled to their last place. */
    private static void fullRegistry() {
        MissRegistry x = addWitnesses(withPersons(90, 91, 92, 93, 94, 95, 96, 97, 98, 99),
                9, 9, 8, 8, 7, 7);
        for (int i = 0; i < 60; i++) {
            x.miss(i % 10, 60);
            x.pass(1);
        }
        CHECK.same("alive", 10, x.alive());
        CHECK.same("shaken", 0, x.shaken());
        CHECK.same("certified", 60, x.certified());
        CHECK.same("missesOf(9)", 6, x.missesOf(9));
        CHECK.same("closestOf(9)", 60, x.closestOf(9));
        CHECK.same("personOf(59)", 9, x.personOf(59));
        CHECK.same("inchesOf(59)", 60, x.inchesOf(59));
        CHECK.same("sealOf(59)", seal(9, 60), x.sealOf(59));
        CHECK.same("wouldCertify(20)", 20, x.wouldCertify(20));
        CHECK.same("nightsUntilCalm", 0, x.nightsUntilCalm());
        CHECK.same("steadiest", 0, x.steadiest());
        CHECK.same("luckiest", 0, x.luckiest());
        CHECK.sameDouble("meanLuck", 99.0, x.meanLuck());
        CHECK.same("digest", digest(x), x.digest());
        CHECK.indexRefused("sealOf(60)", x, () -> x.sealOf(60));
        CHECK.indexRefused("luckOf(10)", x, () -> x.luckOf(10));
        CHECK.indexRefused("nerveOf(6)", x, () -> x.nerveOf(6));
        CHECK.same("setHeir(9, 0)", -1, x.setHeir(9, 0));
        CHECK.same("hit(9)", 0, x.hit(9));
        CHECK.same("turnDuty(5)", false, x.turnDuty(5));
        CHECK.same("pass", 0, x.pass(30));
    }

    private static long digest(MissRegistry x) {
        long d = 1951;
        long[] first = {x.night(), x.persons(), x.alive(), x.witnesses(), x.shaken(), x.fund(),
            x.refunded(), x.misses(), x.certified(), x.wouldCertify(20), x.missesUntilShaken(10),
            x.nightsUntilCalm(), x.steadiest(), x.luckiest()};
        d = mixAll(d, first);
        for (int p = 0; p < x.persons(); p++) {
            long[] row = {x.isAlive(p) ? 1 : 0, x.luckOf(p), x.purseOf(p), x.fatesOf(p),
                x.heirOf(p), x.lastHeirOf(p), x.missesOf(p), x.closestOf(p)};
            d = mixAll(d, row);
        }
        for (int w = 0; w < x.witnesses(); w++) {
            d = mixAll(d, x.nerveOf(w), x.isOnDuty(w) ? 1 : 0);
        }
        int latest = x.misses() - 1;
        return latest < 0 ? mixAll(d, 0, 0) : mixAll(d, x.inchesOf(latest), x.sealOf(latest));
    }

    private static long mixAll(long d, long... numbers) {
        for (long x : numbers) {
            d = d * 31 + x;
        }
        return d;
    }
}
