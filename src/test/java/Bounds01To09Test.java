import java.util.function.Supplier;

/** The boundary cases of promises 1 to 9, sentence by sentence. */
public final class Bounds01To09Test {
    private static final String INDEX_PERSON =
            "Throws `IndexOutOfBoundsException` if there is no such person";
    private static final String INDEX_WITNESS =
            "Throws `IndexOutOfBoundsException` if there is no such witness";
    private static final String ARGUMENT_INCHES =
            "Throws `IllegalArgumentException` if inches is not 1 to 60";
    private static final String STATE_GONE = "Throws `IllegalStateException` if this one is gone";

    private static final Sentences DOC = new Sentences();

    public static void main(String[] args) {
        promise1();
        promise2();
        promise3();
        promise4();
        promise5();
        promise6();
        promise7();
        promise8();
        promise9();
        DOC.end(1, 9);
    }

    // ---- promise 1

    private static void promise1() {
        DOC.of(1, "Creates a registry without persons and witnesses, at the night 0.", () -> {
            MissRegistry x = new MissRegistry();
            DOC.due("persons", 0, x.persons());
            DOC.due("witnesses", 0, x.witnesses());
            DOC.due("night", 0, x.night());
            DOC.index("isAlive(0)", MissRegistry::new, y -> y.isAlive(0));
            DOC.index("isOnDuty(0)", MissRegistry::new, y -> y.isOnDuty(0));
            DOC.index("personOf(0)", MissRegistry::new, y -> y.personOf(0));
            DOC.due("pass(30) of an empty registry", 0, x.pass(30));
            DOC.due("night behind pass(30)", 30, x.night());
            DOC.due("night of another object", 0, new MissRegistry().night());
            x.addPerson(1);
            x.addWitness(1);
            DOC.due("persons of another object", 0, new MissRegistry().persons());
            DOC.due("witnesses of another object", 0, new MissRegistry().witnesses());
        });
    }

    // ---- promise 2

    private static void promise2() {
        DOC.of(2, "Returns the number of this one.", () -> {
            MissRegistry x = new MissRegistry();
            for (int i = 0; i < 10; i++) {
                DOC.due("addPerson, " + i + " there", i, x.addPerson(99 - i));
                DOC.due("its luck", 99 - i, x.luckOf(i));
            }
            MissRegistry y = Made.persons(5);
            y.hit(0);
            DOC.due("addPerson, the one there is gone", 1, y.addPerson(6));
            DOC.due("the one there is gone still", false, y.isAlive(0));
            newPersonAlone();
        });
        DOC.of(2, "Throws `IllegalArgumentException` if luck is not 0 to 99",
                Bounds01To09Test::luckOfNewPerson);
        DOC.of(2, "Throws `IllegalStateException` if there are 10",
                Bounds01To09Test::tenPersons);
    }

    /** A new person leaves those who are there as they are. */
    private static void newPersonAlone() {
        MissRegistry x = Made.persons(99, 98);
        x.setHeir(0, 1);
        x.setHeir(1, 0);
        x.buyFate(0);
        x.buyFate(1);
        for (int i = 2; i < 10; i++) {
            x.addPerson(i);
            for (int person = 0; person < 2; person++) {
                DOC.due("luck", 99 - person, x.luckOf(person));
                DOC.due("purse", 95, x.purseOf(person));
                DOC.due("fates", 1, x.fatesOf(person));
                DOC.due("heir", 1 - person, x.heirOf(person));
            }
        }
        DOC.due("fund", 10, x.fund());
    }

    private static void luckOfNewPerson() {
        int[] wrong = {-1, 100, -100, 199, Integer.MIN_VALUE, Integer.MAX_VALUE};
        for (int luck : wrong) {
            DOC.argument("addPerson(" + luck + "), empty", MissRegistry::new,
                    x -> x.addPerson(luck));
            DOC.argument("addPerson(" + luck + "), 9 there", () -> Made.sized(9, 6, 3),
                    x -> x.addPerson(luck));
            // There are 10 as well, but that exception is named second.
            DOC.argument("addPerson(" + luck + "), 10 there", () -> Made.sized(10, 6, 3),
                    x -> x.addPerson(luck));
        }
        for (int luck : new int[] {0, 1, 98, 99}) {
            MissRegistry x = new MissRegistry();
            DOC.due("addPerson(" + luck + ")", 0, x.addPerson(luck));
            DOC.due("luck of " + luck, luck, x.luckOf(0));
        }
    }

    private static void tenPersons() {
        DOC.due("the 10th", 9, Made.sized(9, 0, 0).addPerson(50));
        for (int luck : new int[] {0, 50, 99}) {
            DOC.state("the 11th", () -> Made.sized(10, 6, 3), x -> x.addPerson(luck));
            DOC.state("the 11th, all gone", Bounds01To09Test::tenGone, x -> x.addPerson(luck));
        }
    }

    private static MissRegistry tenGone() {
        MissRegistry x = Made.sized(10, 1, 0);
        for (int person = 0; person < 10; person++) {
            x.hit(person);
        }
        return x;
    }

    // ---- promise 3

    private static void promise3() {
        DOC.of(3, "Returns the number of this one.", () -> {
            MissRegistry x = new MissRegistry();
            for (int i = 0; i < 6; i++) {
                DOC.due("addWitness, " + i + " there", i, x.addWitness(9 - i));
                DOC.due("its nerve", 9 - i, x.nerveOf(i));
            }
            MissRegistry y = Made.witnesses(5);
            y.turnDuty(0);
            DOC.due("addWitness, the one there off duty", 1, y.addWitness(6));
            DOC.due("the one there still off duty", false, y.isOnDuty(0));
            DOC.due("nerve of the one there", 5, y.nerveOf(0));
        });
        DOC.of(3, "Throws `IllegalArgumentException` if nerve is not 0 to 9",
                Bounds01To09Test::nerveOfNewWitness);
        DOC.of(3, "Throws `IllegalStateException` if there are 6",
                Bounds01To09Test::sixWitnesses);
    }

    private static void nerveOfNewWitness() {
        int[] wrong = {-1, 10, -9, 99, Integer.MIN_VALUE, Integer.MAX_VALUE};
        for (int nerve : wrong) {
            DOC.argument("addWitness(" + nerve + "), empty", MissRegistry::new,
                    x -> x.addWitness(nerve));
            DOC.argument("addWitness(" + nerve + "), 5 there", () -> Made.sized(10, 5, 3),
                    x -> x.addWitness(nerve));
            // There are 6 as well, but that exception is named second.
            DOC.argument("addWitness(" + nerve + "), 6 there", () -> Made.sized(10, 6, 3),
                    x -> x.addWitness(nerve));
        }
        for (int nerve : new int[] {0, 1, 8, 9}) {
            MissRegistry x = new MissRegistry();
            DOC.due("addWitness(" + nerve + ")", 0, x.addWitness(nerve));
            DOC.due("nerve of " + nerve, nerve, x.nerveOf(0));
        }
    }

    private static void sixWitnesses() {
        DOC.due("the 6th", 5, Made.sized(0, 5, 0).addWitness(5));
        for (int nerve : new int[] {0, 5, 9}) {
            DOC.state("the 7th", () -> Made.sized(10, 6, 3), x -> x.addWitness(nerve));
            DOC.state("the 7th, all off duty", Bounds01To09Test::sixOffDuty,
                    x -> x.addWitness(nerve));
        }
    }

    private static MissRegistry sixOffDuty() {
        MissRegistry x = Made.sized(1, 6, 0);
        for (int witness = 0; witness < 6; witness++) {
            x.turnDuty(witness);
        }
        return x;
    }

    // ---- promise 4

    private static void promise4() {
        DOC.of(4, "`heir`: the heir from now on, whether alive or not; -1 for none",
                Bounds01To09Test::heirFromNowOn);
        DOC.of(4, "Returns the heir before; -1 for none.", () -> {
            MissRegistry x = Made.sized(10, 0, 0);
            DOC.due("setHeir(9, -1), never one", -1, x.setHeir(9, -1));
            DOC.due("setHeir(9, 0), none before", -1, x.setHeir(9, 0));
            DOC.due("setHeir(9, 8), 0 before", 0, x.setHeir(9, 8));
            DOC.due("setHeir(9, 8), the same before", 8, x.setHeir(9, 8));
            DOC.due("setHeir(9, -1), 8 before", 8, x.setHeir(9, -1));
            DOC.due("setHeir(9, 1), none before again", -1, x.setHeir(9, 1));
        });
        DOC.of(4, "Throws `IndexOutOfBoundsException` if there is no such person, "
                + "or heir is neither -1 nor a person", Bounds01To09Test::heirIndex);
        DOC.of(4, "Throws `IllegalArgumentException` if both are the same",
                Bounds01To09Test::heirSame);
        DOC.of(4, "Throws `IllegalStateException` if the person is gone",
                Bounds01To09Test::heirOfGone);
    }

    private static void heirFromNowOn() {
        MissRegistry x = Made.sized(10, 0, 0);
        x.setHeir(0, 9);
        DOC.due("heirOf(0), alive", 9, x.heirOf(0));
        x.hit(8);
        x.setHeir(0, 8);
        DOC.due("heirOf(0), gone", 8, x.heirOf(0));
        x.hit(0);
        x.setHeir(9, 0);
        DOC.due("heirOf(9), gone", 0, x.heirOf(9));
        x.setHeir(9, -1);
        DOC.due("heirOf(9), none", -1, x.heirOf(9));
        DOC.due("heirOf(0), kept", 8, x.heirOf(0));
    }

    private static void heirIndex() {
        Made.noSuchPerson(DOC, "setHeir(.., -1)", (x, person) -> x.setHeir(person, -1));
        for (int count : new int[] {1, 2, 9, 10}) {
            Supplier<MissRegistry> made = () -> Made.sized(count, 6, 12);
            for (int heir : new int[] {-2, count, 11, Integer.MIN_VALUE, Integer.MAX_VALUE}) {
                DOC.index("setHeir(0, " + heir + ")", made, x -> x.setHeir(0, heir));
                DOC.index("setHeir(" + heir + ", 0)", made, x -> x.setHeir(heir, 0));
                // Both are the same, or the person is gone: named second and third.
                DOC.index("setHeir(" + heir + ", itself)", made, x -> x.setHeir(heir, heir));
                DOC.index("setHeir(0, " + heir + "), gone", () -> hit(made.get(), 0),
                        x -> x.setHeir(0, heir));
            }
            DOC.taken("setHeir(0, -1)", made, x -> x.setHeir(0, -1));
            for (int heir = 1; heir < count; heir++) {
                int each = heir;
                DOC.taken("setHeir(0, " + each + ")", made, x -> x.setHeir(0, each));
            }
        }
        // -1 is no heir to be the same as, but no person either.
        DOC.index("setHeir(-1, -1), empty", MissRegistry::new, x -> x.setHeir(-1, -1));
        DOC.index("setHeir(-1, -1)", () -> Made.sized(10, 6, 3), x -> x.setHeir(-1, -1));
    }

    private static MissRegistry hit(MissRegistry x, int person) {
        x.hit(person);
        return x;
    }

    private static void heirSame() {
        for (int person = 0; person < 10; person++) {
            int same = person;
            Supplier<MissRegistry> made = () -> Made.sized(10, 6, 3);
            DOC.argument("setHeir(" + same + ", itself)", made, x -> x.setHeir(same, same));
            // The person is gone as well, but that exception is named third.
            DOC.argument("setHeir(" + same + ", itself), gone", () -> hit(made.get(), same),
                    x -> x.setHeir(same, same));
            int other = same == 9 ? 8 : same + 1;
            DOC.taken("setHeir(" + same + ", " + other + ")", made, x -> x.setHeir(same, other));
        }
        DOC.argument("setHeir(0, 0), nobody else", () -> Made.persons(5), x -> x.setHeir(0, 0));
    }

    private static void heirOfGone() {
        Supplier<MissRegistry> made = () -> {
            MissRegistry x = Made.sized(10, 6, 3);
            x.setHeir(4, 5);
            x.setHeir(9, 4);
            return hit(x, 4);
        };
        DOC.state("setHeir(4, 6), gone", made, x -> x.setHeir(4, 6));
        DOC.state("setHeir(4, 5), gone, the same as before", made, x -> x.setHeir(4, 5));
        DOC.state("setHeir(4, -1), gone", made, x -> x.setHeir(4, -1));
        DOC.due("setHeir(5, 4), the heir is gone", -1, made.get().setHeir(5, 4));
        DOC.due("setHeir(9, -1), the heir is gone", 4, made.get().setHeir(9, -1));
    }

    // ---- promise 5

    private static void promise5() {
        DOC.of(5, "Returns what it costs.", () -> {
            int[] lucks = {0, 9, 10, 49, 50, 79, 80, 89, 90, 99};
            int[] costs = {14, 14, 13, 10, 9, 7, 6, 6, 5, 5};
            MissRegistry x = Made.persons(lucks);
            int fund = 0;
            for (int person = 0; person < 10; person++) {
                int cost = costs[person];
                fund += cost;
                DOC.due("buyFate, luck " + lucks[person], cost, x.buyFate(person));
                DOC.due("its purse", 100 - cost, x.purseOf(person));
                DOC.due("its fates", 1, x.fatesOf(person));
                DOC.due("the fund", fund, x.fund());
            }
        });
        DOC.of(5, INDEX_PERSON, () -> Made.noSuchPerson(DOC, "buyFate", MissRegistry::buyFate));
        DOC.of(5, "Throws `IllegalStateException` if this one is gone, has 9 fates, "
                + "or fewer coins than it costs", () -> {
                fateOfGone();
                tenthFate();
                coinsForFate();
                fateOfEachAlone();
            });
    }

    private static void fateOfGone() {
        Supplier<MissRegistry> made = () -> hit(Made.persons(99, 99, 0), 1);
        DOC.state("buyFate(1), gone", made, x -> x.buyFate(1));
        DOC.due("buyFate(0), alive", 5, made.get().buyFate(0));
        DOC.due("buyFate(2), alive", 14, made.get().buyFate(2));
    }

    private static void tenthFate() {
        MissRegistry x = bought(99, 8);
        DOC.due("the 9th", 5, x.buyFate(0));
        DOC.due("9 fates", 9, x.fatesOf(0));
        DOC.due("coins for another", 55, x.purseOf(0));
        DOC.state("the 10th", () -> bought(99, 9), y -> y.buyFate(0));
        // One that is used up makes room for another.
        MissRegistry z = Made.with(bought(99, 9), 9);
        z.miss(0, 24);
        DOC.due("8 fates", 8, z.fatesOf(0));
        DOC.due("the 9th again", 5, z.buyFate(0));
        DOC.state("the 10th again", () -> {
            MissRegistry y = Made.with(bought(99, 9), 9);
            y.miss(0, 24);
            y.buyFate(0);
            return y;
        }, y -> y.buyFate(0));
    }

    /** Whether the other is gone, has 9 fates or no coins is nothing to this one. */
    private static void fateOfEachAlone() {
        for (int person = 0; person < 2; person++) {
            int one = person;
            int other = 1 - person;
            MissRegistry x = hit(Made.persons(99, 99), other);
            DOC.due("the other gone", 5, x.buyFate(one));
            MissRegistry y = bought(Made.persons(99, 99), other, 9);
            DOC.due("the other with 9 fates", 5, y.buyFate(one));
            DOC.state("9 fates, the other with none",
                    () -> bought(Made.persons(99, 99), one, 9), z -> z.buyFate(one));
            MissRegistry z = bought(Made.persons(0, 0), other, 7);
            DOC.due("the other with 2 coins", 14, z.buyFate(one));
            DOC.state("2 coins, the other with 100",
                    () -> bought(Made.persons(0, 0), one, 7), w -> w.buyFate(one));
        }
    }

    private static MissRegistry bought(int luck, int fates) {
        return bought(Made.persons(luck), 0, fates);
    }

    private static MissRegistry bought(MissRegistry x, int person, int fates) {
        for (int i = 0; i < fates; i++) {
            x.buyFate(person);
        }
        return x;
    }

    private static void coinsForFate() {
        DOC.state("2 coins of 14", () -> bought(0, 7), x -> x.buyFate(0));
        DOC.due("purse of 2 coins", 2, bought(0, 7).purseOf(0));
        // One coin is lacking, then none, as with luck 30 it costs 11.
        DOC.due("purse of 11 coins", 11, elevenCoins().purseOf(0));
        DOC.due("price of 12", 12, elevenCoins().priceFor(0));
        DOC.due("7 fates", 7, elevenCoins().fatesOf(0));
        DOC.state("11 coins of 12", Bounds01To09Test::elevenCoins, x -> x.buyFate(0));
        MissRegistry x = elevenCoins();
        x.pass(10);
        DOC.due("11 coins of 11", 11, x.buyFate(0));
        DOC.due("purse of no coin", 0, x.purseOf(0));
        DOC.due("the 8th fate", 8, x.fatesOf(0));
        DOC.state("no coin of 11", () -> {
            MissRegistry y = elevenCoins();
            y.pass(10);
            y.buyFate(0);
            return y;
        }, y -> y.buyFate(0));
    }

    /** A person with 11 coins, who has paid 14, 14, 13 and four times 12, which it costs now. */
    private static MissRegistry elevenCoins() {
        MissRegistry x = bought(0, 2);
        x.pass(10);
        x.buyFate(0);
        x.pass(10);
        for (int i = 0; i < 4; i++) {
            x.buyFate(0);
        }
        return x;
    }

    // ---- promise 6

    private static void promise6() {
        DOC.of(6, "Returns whether this one is on duty then.", () -> {
            MissRegistry x = Made.sized(0, 6, 0);
            for (int witness = 0; witness < 6; witness++) {
                DOC.due("turnDuty, on duty at first", false, x.turnDuty(witness));
                DOC.due("isOnDuty, off", false, x.isOnDuty(witness));
            }
            for (int witness = 0; witness < 6; witness++) {
                DOC.due("turnDuty, off duty", true, x.turnDuty(witness));
                DOC.due("isOnDuty, on", true, x.isOnDuty(witness));
                DOC.due("nerve", 9 - witness, x.nerveOf(witness));
            }
            MissRegistry y = Made.witnesses(0);
            DOC.due("turnDuty, shaken", false, y.turnDuty(0));
            DOC.due("turnDuty, shaken, again", true, y.turnDuty(0));
        });
        DOC.of(6, INDEX_WITNESS,
                () -> Made.noSuchWitness(DOC, "turnDuty", MissRegistry::turnDuty));
    }

    // ---- promise 7

    private static void promise7() {
        DOC.of(7, "Returns the certified inches; 0 if it is not certified.",
                Bounds01To09Test::missCertified);
        DOC.of(7, INDEX_PERSON, () -> {
            Made.noSuchPerson(DOC, "miss(.., 20)", (x, person) -> x.miss(person, 20));
            // The inches are wrong, or there are 60 misses, as well: named second and third.
            for (int none : new int[] {-1, 2, Integer.MIN_VALUE, Integer.MAX_VALUE}) {
                DOC.index("miss(" + none + ", 0)", () -> Made.sized(2, 2, 0),
                        x -> x.miss(none, 0));
                DOC.index("miss(" + none + ", 61)", () -> Made.sized(2, 2, 60),
                        x -> x.miss(none, 61));
                DOC.index("miss(" + none + ", 20), 60 there", () -> Made.sized(2, 2, 60),
                        x -> x.miss(none, 20));
            }
            DOC.index("miss(0, 0), empty", MissRegistry::new, x -> x.miss(0, 0));
        });
        DOC.of(7, ARGUMENT_INCHES, () -> {
            Made.inchesOneToSixty(DOC, "miss(0, ..)", (x, inches) -> x.miss(0, inches));
            // This one is gone, or there are 60 misses, as well: named third.
            for (int none : new int[] {0, 61, Integer.MIN_VALUE, Integer.MAX_VALUE}) {
                DOC.argument("miss(0, " + none + "), gone", () -> hit(Made.sized(2, 2, 3), 0),
                        x -> x.miss(0, none));
                DOC.argument("miss(0, " + none + "), 60 there", () -> Made.sized(2, 2, 60),
                        x -> x.miss(0, none));
            }
        });
        DOC.of(7, "Throws `IllegalStateException` if this one is gone, or there are 60 misses",
                Bounds01To09Test::missState);
    }

    private static void missCertified() {
        DOC.due("without witnesses", 0, Made.persons(50).miss(0, 20));
        DOC.due("with a nerve of 2", 0, Made.with(Made.persons(50), 2).miss(0, 20));
        DOC.due("with a nerve of 3", 17, Made.with(Made.persons(50), 3).miss(0, 20));
        DOC.due("at least 1 inch", 1, Made.with(Made.persons(50), 3).miss(0, 1));
        DOC.due("at most 60 inches", 60, Made.with(Made.persons(50), 9).miss(0, 60));
        MissRegistry x = Made.with(Made.persons(50), 9, 2);
        x.turnDuty(0);
        DOC.due("with the other off duty", 0, x.miss(0, 20));
        DOC.due("kept all the same", 1, x.misses());
        DOC.due("the luck is less all the same", 46, x.luckOf(0));
        DOC.due("the nerve is less all the same", 1, x.nerveOf(1));
    }

    private static void missState() {
        Supplier<MissRegistry> gone = () -> hit(Made.sized(2, 2, 3), 1);
        DOC.state("miss(1, 20), gone", gone, x -> x.miss(1, 20));
        DOC.taken("miss(0, 20), alive", gone, x -> x.miss(0, 20));
        DOC.state("the 61st, gone", () -> hit(Made.sized(2, 2, 60), 1), x -> x.miss(1, 20));

        MissRegistry x = Made.sized(10, 6, 59);
        DOC.taken("the 60th", () -> Made.sized(10, 6, 59), y -> y.miss(9, 20));
        x.miss(9, 20);
        DOC.due("60 misses", 60, x.misses());
        DOC.due("the 60th is kept", 9, x.personOf(59));
        for (int person = 0; person < 10; person++) {
            int each = person;
            DOC.state("the 61st", () -> Made.sized(10, 6, 60), y -> y.miss(each, 20));
        }
        // Those that are not certified are kept too, and no night makes room.
        DOC.state("the 61st, none certified", () -> Made.sized(1, 0, 60), y -> y.miss(0, 20));
        DOC.state("the 61st, many nights on", () -> {
            MissRegistry y = Made.sized(10, 6, 60);
            y.pass(30);
            return y;
        }, y -> y.miss(0, 20));
        DOC.state("the 61st, with a fate", () -> {
            MissRegistry y = Made.with(Made.sized(1, 0, 60), 9);
            y.buyFate(0);
            return y;
        }, y -> y.miss(0, 20));
    }

    // ---- promise 8

    private static void promise8() {
        DOC.of(8, "Returns the last heir; -1 for none.", () -> {
            DOC.due("nobody else", -1, Made.persons(50).hit(0));
            DOC.due("no heir", -1, Made.sized(10, 0, 0).hit(9));
            for (int heir = 0; heir < 9; heir++) {
                MissRegistry x = Made.sized(10, 0, 0);
                x.setHeir(9, heir);
                DOC.due("heir " + heir, heir, x.hit(9));
            }
            MissRegistry y = Made.sized(3, 0, 0);
            y.setHeir(0, 1);
            y.setHeir(1, 2);
            y.hit(1);
            DOC.due("the heir is gone", 2, y.hit(0));
            MissRegistry z = Made.sized(2, 0, 0);
            z.setHeir(0, 1);
            z.hit(1);
            DOC.due("the heir is gone, and without one", -1, z.hit(0));
        });
        DOC.of(8, INDEX_PERSON, () -> Made.noSuchPerson(DOC, "hit", MissRegistry::hit));
        DOC.of(8, STATE_GONE, () -> {
            for (int person = 0; person < 10; person++) {
                int each = person;
                DOC.state("hit(" + each + ") again", () -> hit(Made.sized(10, 6, 3), each),
                        x -> x.hit(each));
            }
            DOC.state("hit(0) again, with an heir", () -> {
                MissRegistry x = Made.sized(2, 2, 3);
                x.setHeir(0, 1);
                return hit(x, 0);
            }, x -> x.hit(0));
            DOC.state("hit(9), all gone", Bounds01To09Test::tenGone, x -> x.hit(9));
        });
    }

    // ---- promise 9

    private static void promise9() {
        DOC.of(9, "Returns how many witnesses are shaken then.", () -> {
            DOC.due("no witness", 0, Made.sized(2, 0, 0).pass(1));
            DOC.due("all, none calm by it", 6, Made.witnesses(0, 0, 0, 1, 1, 1).pass(1));
            DOC.due("nerves of 2 are 3 then", 3, Made.witnesses(0, 2, 2, 1, 2, 0).pass(1));
            DOC.due("0 on duty, 2 nights", 1, Made.witnesses(0).pass(2));
            DOC.due("0 on duty, 3 nights", 0, Made.witnesses(0).pass(3));
            MissRegistry x = Made.witnesses(0, 1);
            x.turnDuty(0);
            x.turnDuty(1);
            DOC.due("0 and 1 off duty, 1 night", 1, x.pass(1));
            DOC.due("0 and 1 off duty, 2 nights", 0, x.pass(1));
        });
        DOC.of(9, "Throws `IllegalArgumentException` if nights is not 1 to 30", () -> {
            int[] wrong = {0, 31, -1, -30, 100, Integer.MIN_VALUE, Integer.MAX_VALUE};
            for (int nights : wrong) {
                DOC.argument("pass(" + nights + ")", () -> Made.sized(10, 6, 12),
                        x -> x.pass(nights));
                DOC.argument("pass(" + nights + "), empty", MissRegistry::new,
                        x -> x.pass(nights));
            }
            for (int nights : new int[] {1, 2, 29, 30}) {
                MissRegistry x = Made.persons(40);
                x.pass(nights);
                DOC.due("night behind pass(" + nights + ")", nights, x.night());
                DOC.due("luck behind pass(" + nights + ")", 40 + nights, x.luckOf(0));
            }
        });
    }
}
