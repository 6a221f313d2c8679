import java.math.BigInteger;

/** The boundary cases of promises 34 to 41, sentence by sentence. */
public final class Bounds34To41Test {
    private static final String ARGUMENT_INCHES =
            "Throws `IllegalArgumentException` if inches is not 1 to 60";

    private static final Sentences DOC = new Sentences();

    public static void main(String[] args) {
        promise34();
        promise35();
        promise36();
        promise37();
        promise38();
        promise39();
        promise40();
        promise41();
        DOC.end(34, 41);
    }

    // ---- promise 34

    private static void promise34() {
        DOC.of(34, "Returns the inches that would be certified now; 0 if none would.", () -> {
            DOC.due("empty", 0, new MissRegistry().wouldCertify(20));
            DOC.due("without persons", 20, Made.witnesses(9).wouldCertify(20));
            DOC.due("a nerve of 2", 0, Made.witnesses(2).wouldCertify(60));
            DOC.due("six of 2 and less", 0, Made.witnesses(0, 1, 2, 2, 1, 0).wouldCertify(60));
            DOC.due("a nerve of 3", 57, Made.witnesses(3).wouldCertify(60));
            DOC.due("the fewest inches", 1, Made.witnesses(3).wouldCertify(1));
            DOC.due("the most inches", 60, Made.witnesses(9).wouldCertify(60));
            MissRegistry x = Made.witnesses(9, 2);
            x.turnDuty(0);
            DOC.due("the other off duty", 0, x.wouldCertify(20));
            x.pass(1);
            DOC.due("now calm", 17, x.wouldCertify(20));
            MissRegistry y = Made.sized(1, 1, 60);
            y.pass(30);
            DOC.due("60 misses there", 20, y.wouldCertify(20));
        });
        DOC.of(34, ARGUMENT_INCHES, () -> {
            Made.inchesOneToSixty(DOC, "wouldCertify", MissRegistry::wouldCertify);
            for (int none : new int[] {0, 61, Integer.MIN_VALUE, Integer.MAX_VALUE}) {
                DOC.argument("wouldCertify(" + none + "), empty", MissRegistry::new,
                        x -> x.wouldCertify(none));
            }
        });
    }

    // ---- promise 35

    private static MissRegistry oneWithFate(int luck) {
        MissRegistry x = Made.with(Made.persons(luck, 99), 9);
        x.buyFate(0);
        return x;
    }

    private static void promise35() {
        DOC.of(35, "Returns how many coins would be refunded now; 0 if this one is gone.",
                Bounds34To41Test::wouldRefund);
        DOC.of(35, "Throws `IndexOutOfBoundsException` if there is no such person", () -> {
            Made.noSuchPerson(DOC, "wouldRefund(.., 20)", (x, p) -> x.wouldRefund(p, 20));
            // The inches are wrong as well, but that exception is named second.
            for (int none : new int[] {-1, 2, Integer.MIN_VALUE, Integer.MAX_VALUE}) {
                DOC.index("wouldRefund(" + none + ", 0)", () -> oneWithFate(50),
                        x -> x.wouldRefund(none, 0));
                DOC.index("wouldRefund(" + none + ", 61)", () -> oneWithFate(50),
                        x -> x.wouldRefund(none, 61));
            }
            DOC.index("wouldRefund(0, 0), empty", MissRegistry::new, x -> x.wouldRefund(0, 0));
        });
        DOC.of(35, ARGUMENT_INCHES, () -> {
            Made.inchesOneToSixty(DOC, "wouldRefund(0, ..)",
                    (x, inches) -> x.wouldRefund(0, inches));
            for (int none : new int[] {0, 61, Integer.MIN_VALUE, Integer.MAX_VALUE}) {
                DOC.argument("wouldRefund(0, " + none + "), gone", () -> {
                    MissRegistry x = oneWithFate(50);
                    x.hit(0);
                    return x;
                }, x -> x.wouldRefund(0, none));
                DOC.argument("wouldRefund(1, " + none + "), no fate", () -> oneWithFate(50),
                        x -> x.wouldRefund(1, none));
            }
        });
    }

    private static void wouldRefund() {
        DOC.due("without a fate", 0, oneWithFate(50).wouldRefund(1, 1));
        DOC.due("25 inches", 0, oneWithFate(50).wouldRefund(0, 25));
        DOC.due("24 inches, all that the fund has", 9, oneWithFate(50).wouldRefund(0, 24));
        DOC.due("23 inches, more than the fund has", 9, oneWithFate(50).wouldRefund(0, 23));
        MissRegistry x = oneWithFate(50);
        x.buyFate(1);
        DOC.due("19 inches, of 14 coins", 14, x.wouldRefund(0, 19));
        DOC.due("20 inches, of 14 coins", 13, x.wouldRefund(0, 20));
        DOC.due("18 inches, of 14 coins", 14, x.wouldRefund(0, 18));
        DOC.due("asked again", 14, x.wouldRefund(0, 18));
        DOC.due("the fates", 1, x.fatesOf(0));
        DOC.due("what is refunded then", x.wouldRefund(0, 20), refundOfMiss(x, 0, 20));
        x.turnDuty(0);
        DOC.due("not certified", 0, x.wouldRefund(1, 20));
        x.turnDuty(0);
        DOC.due("an emptier fund", 1, x.wouldRefund(1, 20));
        x.miss(1, 24);
        x.buyFate(0);
        x.hit(0);
        DOC.due("gone", 0, x.wouldRefund(0, 1));
        MissRegistry y = Made.with(Made.persons(50), 3);
        y.buyFate(0);
        DOC.due("27 inches told as 24", 9, y.wouldRefund(0, 27));
        DOC.due("28 inches told as 25", 0, y.wouldRefund(0, 28));
        MissRegistry z = Made.sized(1, 1, 60);
        z.pass(30);
        z.buyFate(0);
        DOC.due("60 misses there", z.priceFor(0), z.wouldRefund(0, 24));
    }

    private static int refundOfMiss(MissRegistry x, int person, int inches) {
        int before = x.refunded();
        x.miss(person, inches);
        return x.refunded() - before;
    }

    // ---- promise 36

    private static void promise36() {
        DOC.of(36, "Returns behind how many such misses, without nights, all witnesses on duty "
                + "are shaken: 0 if they are now, also if nobody is on duty.",
                Bounds34To41Test::untilShaken);
        DOC.of(36, ARGUMENT_INCHES, () -> {
            Made.inchesOneToSixty(DOC, "missesUntilShaken", MissRegistry::missesUntilShaken);
            for (int none : new int[] {0, 61, Integer.MIN_VALUE, Integer.MAX_VALUE}) {
                DOC.argument("missesUntilShaken(" + none + "), empty", MissRegistry::new,
                        x -> x.missesUntilShaken(none));
            }
        });
    }

    private static void untilShaken() {
        int[] inches = {1, 5, 6, 12, 13, 60};
        int[][] due = {
            {0, 0, 0, 1, 1, 1, 2, 2, 2, 3}, {0, 0, 0, 1, 1, 1, 2, 2, 2, 3},
            {0, 0, 0, 1, 1, 2, 2, 3, 3, 4}, {0, 0, 0, 1, 1, 2, 2, 3, 3, 4},
            {0, 0, 0, 1, 2, 3, 4, 5, 6, 7}, {0, 0, 0, 1, 2, 3, 4, 5, 6, 7}};
        for (int i = 0; i < inches.length; i++) {
            DOC.due("empty", 0, new MissRegistry().missesUntilShaken(inches[i]));
            for (int nerve = 0; nerve <= 9; nerve++) {
                String what = "nerve " + nerve + ", " + inches[i] + " inches";
                MissRegistry x = Made.witnesses(nerve);
                DOC.due(what, due[i][nerve], x.missesUntilShaken(inches[i]));
                x.turnDuty(0);
                DOC.due(what + ", nobody on duty", 0, x.missesUntilShaken(inches[i]));
                MissRegistry y = Made.witnesses(9, 0, nerve, 2, 0, nerve);
                y.turnDuty(0);
                DOC.due(what + ", 9 off duty", due[i][nerve], y.missesUntilShaken(inches[i]));
            }
        }
        DOC.due("the steadiest last", 7, Made.witnesses(0, 3, 4, 9).missesUntilShaken(60));
        DOC.due("the steadiest first", 7, Made.witnesses(9, 3, 4, 0).missesUntilShaken(60));
        MissRegistry z = Made.sized(1, 1, 60);
        z.pass(30);
        DOC.due("60 misses there", 7, z.missesUntilShaken(60));
        z.hit(0);
        DOC.due("nobody alive", 7, z.missesUntilShaken(60));
    }

    // ---- promise 37

    private static void promise37() {
        DOC.of(37, "Returns behind how many nights nobody is shaken, on duty or not: "
                + "0 if nobody is now.", () -> {
                DOC.due("empty", 0, new MissRegistry().nightsUntilCalm());
                int[] onDuty = {3, 2, 1, 0, 0, 0, 0, 0, 0, 0};
                int[] offDuty = {2, 1, 1, 0, 0, 0, 0, 0, 0, 0};
                for (int nerve = 0; nerve <= 9; nerve++) {
                    MissRegistry x = Made.witnesses(nerve);
                    DOC.due("nerve " + nerve, onDuty[nerve], x.nightsUntilCalm());
                    x.turnDuty(0);
                    DOC.due("nerve " + nerve + ", off duty", offDuty[nerve], x.nightsUntilCalm());
                }
                DOC.due("none of six", 0, Made.witnesses(3, 9, 4, 5, 6, 3).nightsUntilCalm());
                DOC.due("the last of six", 3, Made.witnesses(9, 9, 2, 9, 1, 0).nightsUntilCalm());
                DOC.due("the first of six", 3, Made.witnesses(0, 9, 2, 9, 1, 9).nightsUntilCalm());
                MissRegistry x = Made.witnesses(0, 2);
                x.turnDuty(0);
                DOC.due("0 off duty, 2 on duty", 2, x.nightsUntilCalm());
                x.pass(1);
                DOC.due("a night on", 1, x.nightsUntilCalm());
                x.pass(1);
                DOC.due("two nights on", 0, x.nightsUntilCalm());
            });
    }

    // ---- promise 38

    private static void promise38() {
        DOC.of(38, "Returns the witness with the greatest nerve of those on duty, "
                + "of several the smallest number; -1 if nobody is on duty.", () -> {
                DOC.due("empty", -1, new MissRegistry().steadiest());
                DOC.due("persons alone", -1, Made.sized(10, 0, 0).steadiest());
                DOC.due("all alike", 0, Made.witnesses(5, 5, 5, 5, 5, 5).steadiest());
                DOC.due("all at 0", 0, Made.witnesses(0, 0, 0).steadiest());
                DOC.due("the last", 5, Made.witnesses(0, 1, 2, 3, 4, 5).steadiest());
                DOC.due("the first", 0, Made.witnesses(9, 8, 7, 8, 7, 8).steadiest());
                MissRegistry x = Made.witnesses(3, 9, 4, 9, 4, 0);
                int[] next = {1, 3, 2, 4, 0, 5};
                for (int witness : next) {
                    DOC.due("of those left", witness, x.steadiest());
                    x.turnDuty(witness);
                }
                DOC.due("nobody left", -1, x.steadiest());
                x.turnDuty(5);
                DOC.due("0 alone on duty", 5, x.steadiest());
            });
    }

    // ---- promise 39

    private static void promise39() {
        DOC.of(39, "Returns the person alive with the greatest luck, "
                + "of several the smallest number; -1 if nobody is alive.", () -> {
                DOC.due("empty", -1, new MissRegistry().luckiest());
                DOC.due("witnesses alone", -1, Made.sized(0, 6, 0).luckiest());
                DOC.due("all alike", 0, Made.persons(7, 7, 7).luckiest());
                DOC.due("all at 0", 0, Made.persons(0, 0, 0).luckiest());
                MissRegistry x = Made.persons(1, 99, 3, 99, 5, 6, 7, 7, 0, 98);
                int[] next = {1, 3, 9, 6, 7, 5, 4, 2, 0, 8};
                for (int person : next) {
                    DOC.due("of those left", person, x.luckiest());
                    x.hit(person);
                }
                DOC.due("nobody left", -1, x.luckiest());
                MissRegistry y = Made.persons(98, 99);
                y.pass(1);
                DOC.due("99 at most, so alike", 0, y.luckiest());
            });
    }

    // ---- promise 40

    private static void promise40() {
        DOC.of(40, "Returns the mean luck of persons alive; 0 without any.", () -> {
            DOC.dueDouble("empty", 0.0, new MissRegistry().meanLuck());
            DOC.dueDouble("one at 0", 0.0, Made.persons(0).meanLuck());
            DOC.dueDouble("all at 99", 99.0, Made.persons(99, 99, 99).meanLuck());
            DOC.dueDouble("not cut", 1.0 / 3.0, Made.persons(0, 0, 1).meanLuck());
            DOC.dueDouble("of ten", 4.5, Made.persons(0, 1, 2, 3, 4, 5, 6, 7, 8, 9).meanLuck());
            MissRegistry x = Made.persons(99, 10, 11);
            x.hit(0);
            DOC.dueDouble("one gone", 10.5, x.meanLuck());
            x.hit(1);
            DOC.dueDouble("two gone", 11.0, x.meanLuck());
            x.hit(2);
            DOC.dueDouble("all gone", 0.0, x.meanLuck());
        });
    }

    // ---- promise 41

    private static void promise41() {
        DOC.of(41, "for each of the following numbers x, d becomes d * 31 + x, "
                + "which wraps around as a 64-bit integer", () -> {
                digestIs("empty", new MissRegistry());
                digestIs("one person", Made.persons(0));
                digestIs("one witness", Made.witnesses(0));
                digestIs("full", Made.sized(10, 6, 60));
                digestIs("full, not certified", Made.sized(10, 0, 60));
                for (int steps = 1; steps < 10; steps++) {
                    digestIs("a mixed one, " + steps + " steps", mixed(steps));
                }
            });
        DOC.of(41, "(whether something is so counts 1 or 0)", () -> {
            MissRegistry x = Made.sized(2, 2, 0);
            digestIs("all alive and on duty", x);
            x.turnDuty(1);
            digestIs("one off duty", x);
            x.hit(0);
            digestIs("one gone", x);
        });
        DOC.of(41, "then inchesOf() and sealOf() of the latest miss, 0 and 0 without any.", () -> {
            digestIs("no miss", Made.sized(1, 1, 0));
            digestIs("one miss", Made.sized(1, 1, 1));
            digestIs("one miss, not certified", Made.sized(1, 0, 1));
            digestIs("two misses", Made.sized(2, 1, 2));
            digestIs("the 60th miss", Made.sized(10, 6, 60));
        });
        DOC.of(41, "Returns d.", () -> {
            // d * 31 to the 16th, less 31 to the 3rd and to the 2nd for the two -1, in 64 bits.
            BigInteger base = BigInteger.valueOf(31);
            BigInteger d = BigInteger.valueOf(1951).multiply(base.pow(16));
            d = d.subtract(base.pow(3)).subtract(base.pow(2));
            DOC.due("empty", d.longValue(), new MissRegistry().digest());
        });
    }

    private static MissRegistry mixed(int steps) {
        MissRegistry x = Made.sized(10, 6, 10);
        x.pass(30);
        for (int person = 0; person < steps; person++) {
            x.buyFate(person);
            x.setHeir(person, 9 - person);
            x.miss(person, 6 * person + 1);
            x.turnDuty(person % 6);
        }
        // The heir of person 0 is gone then, and has no heir: not the last heir of person 0.
        x.hit(9);
        return x;
    }

    private static void digestIs(String what, MissRegistry x) {
        BigInteger[] d = {BigInteger.valueOf(1951)};
        add(d, x.night(), x.persons(), x.alive(), x.witnesses(), x.shaken(), x.fund(),
                x.refunded(), x.misses(), x.certified(), x.wouldCertify(20),
                x.missesUntilShaken(10), x.nightsUntilCalm(), x.steadiest(), x.luckiest());
        int persons = x.persons();
        for (int p = 0; p < persons; p++) {
            add(d, x.isAlive(p) ? 1 : 0, x.luckOf(p), x.purseOf(p), x.fatesOf(p), x.heirOf(p),
                    x.lastHeirOf(p), x.missesOf(p), x.closestOf(p));
        }
        int witnesses = x.witnesses();
        for (int w = 0; w < witnesses; w++) {
            add(d, x.nerveOf(w), x.isOnDuty(w) ? 1 : 0);
        }
        int latest = x.misses() - 1;
        add(d, latest < 0 ? 0 : x.inchesOf(latest), latest < 0 ? 0 : x.sealOf(latest));
        // Never cut on the way: what is left of it in 64 bits is what wrapping around leaves.
        DOC.due(what, d[0].longValue(), x.digest());
    }

    private static void add(BigInteger[] d, int... numbers) {
        for (int x : numbers) {
            d[0] = d[0].multiply(BigInteger.valueOf(31)).add(BigInteger.valueOf(x));
        }
    }
}
