/** The boundary cases of promises 10 to 33, sentence by sentence. */
public final class Bounds10To33Test {
    private static final String INDEX_PERSON =
            "Throws `IndexOutOfBoundsException` if there is no such person";
    private static final String INDEX_WITNESS =
            "Throws `IndexOutOfBoundsException` if there is no such witness";
    private static final String INDEX_MISS =
            "Throws `IndexOutOfBoundsException` if there is no such miss";

    private static final Sentences DOC = new Sentences();

    public static void main(String[] args) {
        promises10To12();
        promises13And14();
        promises15And16();
        promises17And18();
        promises19To23();
        promises24And25();
        promises26And27();
        promises28To30();
        promises31And32();
        promise33();
        DOC.end(10, 33);
    }

    private static MissRegistry allGone(int persons) {
        MissRegistry x = Made.sized(persons, 0, 0);
        for (int person = 0; person < persons; person++) {
            x.hit(person);
        }
        return x;
    }

    // ---- the registry

    private static void promises10To12() {
        DOC.of(10, "Returns how many nights went by.", () -> {
            MissRegistry x = Made.sized(2, 2, 3);
            DOC.due("none", 0, x.night());
            x.pass(1);
            DOC.due("one", 1, x.night());
            x.pass(30);
            DOC.due("31", 31, x.night());
            for (int i = 0; i < 400; i++) {
                x.pass(30);
            }
            DOC.due("12031", 12031, x.night());
        });
        DOC.of(11, "Returns how many persons there are, those who are gone as well.", () -> {
            DOC.due("empty", 0, new MissRegistry().persons());
            DOC.due("one", 1, Made.sized(1, 6, 12).persons());
            DOC.due("full", 10, Made.sized(10, 0, 0).persons());
            DOC.due("full, all gone", 10, allGone(10).persons());
            DOC.due("one, gone", 1, allGone(1).persons());
        });
        DOC.of(12, "Returns how many of them are alive.", () -> {
            DOC.due("empty", 0, new MissRegistry().alive());
            DOC.due("witnesses alone", 0, Made.sized(0, 6, 0).alive());
            MissRegistry x = Made.sized(10, 0, 0);
            for (int person = 9; person >= 0; person--) {
                DOC.due("alive", person + 1, x.alive());
                x.hit(person);
            }
            DOC.due("all gone", 0, x.alive());
        });
    }

    private static void promises13And14() {
        DOC.of(13, "Returns how many witnesses there are.", () -> {
            DOC.due("empty", 0, new MissRegistry().witnesses());
            DOC.due("persons alone", 0, Made.sized(10, 0, 0).witnesses());
            MissRegistry x = Made.witnesses(0, 0, 0, 0, 0, 9);
            DOC.due("full", 6, x.witnesses());
            x.turnDuty(0);
            x.turnDuty(5);
            DOC.due("full, some off duty", 6, x.witnesses());
        });
        DOC.of(14, "Returns how many of them are shaken.", () -> {
            DOC.due("empty", 0, new MissRegistry().shaken());
            for (int nerve = 0; nerve <= 9; nerve++) {
                MissRegistry x = Made.witnesses(nerve);
                DOC.due("nerve " + nerve, nerve <= 2, x.shaken() == 1);
                x.turnDuty(0);
                DOC.due("nerve " + nerve + ", off duty", nerve <= 2, x.shaken() == 1);
            }
            DOC.due("all", 6, Made.witnesses(0, 1, 2, 2, 1, 0).shaken());
            DOC.due("none", 0, Made.witnesses(3, 4, 5, 6, 7, 3).shaken());
            DOC.due("the first and the last", 2, Made.witnesses(2, 3, 3, 3, 3, 2).shaken());
        });
    }

    private static void promises15And16() {
        DOC.of(15, "Returns how many coins the fund has.", () -> {
            MissRegistry x = Made.with(Made.persons(99, 99), 9);
            DOC.due("at first", 0, x.fund());
            x.buyFate(0);
            DOC.due("a fate", 5, x.fund());
            x.miss(0, 24);
            DOC.due("refunded again", 0, x.fund());
            x.hit(0);
            DOC.due("an empty heir", 100, x.fund());
            DOC.due("all coins there are", 1000, allGone(10).fund());
        });
        DOC.of(16, "Returns how many coins were refunded in all.", () -> {
            MissRegistry x = Made.with(Made.persons(99, 0), 9);
            DOC.due("at first", 0, x.refunded());
            x.buyFate(0);
            DOC.due("a fate", 0, x.refunded());
            x.miss(0, 25);
            DOC.due("25 inches", 0, x.refunded());
            x.pass(1);
            x.miss(0, 23);
            DOC.due("no more than the fund has", 5, x.refunded());
            x.pass(9);
            x.buyFate(1);
            x.miss(1, 24);
            DOC.due("in all", 5 + 13, x.refunded());
            x.hit(1);
            DOC.due("in all, one gone", 5 + 13, x.refunded());
        });
    }

    private static void promises17And18() {
        DOC.of(17, "Returns how many misses there were.", () -> {
            DOC.due("empty", 0, new MissRegistry().misses());
            for (int count : new int[] {0, 1, 59, 60}) {
                DOC.due(count + " misses", count, Made.sized(10, 6, count).misses());
                DOC.due(count + ", not certified", count, Made.sized(10, 0, count).misses());
            }
        });
        DOC.of(18, "Returns how many of them were certified.", () -> {
            DOC.due("empty", 0, new MissRegistry().certified());
            DOC.due("none of 60", 0, Made.sized(10, 0, 60).certified());
            DOC.due("those ahead of a nerve of 2", 7, Made.sized(1, 1, 60).certified());
            MissRegistry x = Made.with(Made.persons(0), 3);
            x.miss(0, 1);
            DOC.due("1 inch is certified", 1, x.certified());
            x.miss(0, 60);
            DOC.due("60 inches are not", 1, x.certified());
            MissRegistry y = Made.with(Made.persons(0), 9);
            for (int i = 0; i < 60; i++) {
                y.miss(0, 60);
                y.pass(1);
            }
            DOC.due("all 60", 60, y.certified());
        });
    }

    // ---- of persons

    private static void promises19To23() {
        DOC.of(19, "Returns whether this one is alive.", () -> {
            MissRegistry x = Made.sized(10, 0, 0);
            for (int person = 0; person < 10; person++) {
                DOC.due("alive", true, x.isAlive(person));
                x.hit(person);
                DOC.due("gone", false, x.isAlive(person));
                DOC.due("the last", person < 9, x.isAlive(9));
            }
        });
        DOC.of(19, INDEX_PERSON, () -> Made.noSuchPerson(DOC, "isAlive", MissRegistry::isAlive));
        DOC.of(20, "Returns the luck.", () -> {
            MissRegistry x = Made.persons(0, 99, 1, 98, 5, 60, 70, 80, 90, 33);
            int[] lucks = {0, 99, 1, 98, 5, 60, 70, 80, 90, 33};
            for (int person = 0; person < 10; person++) {
                DOC.due("of a new person", lucks[person], x.luckOf(person));
            }
            x.hit(9);
            x.pass(1);
            DOC.due("of one who is gone", 33, x.luckOf(9));
        });
        DOC.of(20, INDEX_PERSON, () -> Made.noSuchPerson(DOC, "luckOf", MissRegistry::luckOf));
        DOC.of(21, "Returns the coins of the purse.", () -> {
            MissRegistry x = Made.sized(10, 0, 0);
            DOC.due("at first", 100, x.purseOf(9));
            for (int person = 0; person < 9; person++) {
                x.setHeir(person, person + 1);
                x.hit(person);
                DOC.due("of one who is gone", 0, x.purseOf(person));
                DOC.due("of the heir", 100 * (person + 2), x.purseOf(person + 1));
            }
        });
        DOC.of(21, INDEX_PERSON, () -> Made.noSuchPerson(DOC, "purseOf", MissRegistry::purseOf));
        DOC.of(22, "Returns how many fates this one has.", () -> {
            MissRegistry x = Made.persons(99, 99);
            for (int fates = 0; fates < 9; fates++) {
                DOC.due("fates", fates, x.fatesOf(1));
                x.buyFate(1);
            }
            DOC.due("the most", 9, x.fatesOf(1));
            DOC.due("of the other", 0, x.fatesOf(0));
            x.hit(1);
            DOC.due("of one who is gone", 0, x.fatesOf(1));
        });
        DOC.of(22, INDEX_PERSON, () -> Made.noSuchPerson(DOC, "fatesOf", MissRegistry::fatesOf));
        DOC.of(23, "Returns the heir; -1 for none.", () -> {
            MissRegistry x = Made.sized(10, 0, 0);
            for (int person = 0; person < 10; person++) {
                DOC.due("none at first", -1, x.heirOf(person));
            }
            x.setHeir(9, 0);
            x.setHeir(0, 9);
            DOC.due("the first", 0, x.heirOf(9));
            DOC.due("the last", 9, x.heirOf(0));
            x.hit(0);
            DOC.due("gone", 0, x.heirOf(9));
            DOC.due("of one who is gone", 9, x.heirOf(0));
            x.setHeir(9, -1);
            DOC.due("none again", -1, x.heirOf(9));
        });
        DOC.of(23, INDEX_PERSON, () -> Made.noSuchPerson(DOC, "heirOf", MissRegistry::heirOf));
    }

    private static void promises24And25() {
        DOC.of(24, "Returns the last heir; -1 for none.", () -> {
            MissRegistry x = Made.sized(10, 0, 0);
            DOC.due("none", -1, x.lastHeirOf(9));
            x.setHeir(9, 0);
            DOC.due("the heir", 0, x.lastHeirOf(9));
            x.hit(0);
            DOC.due("the heir gone, without one", -1, x.lastHeirOf(9));
            MissRegistry y = Made.sized(2, 0, 0);
            y.setHeir(0, 1);
            y.hit(0);
            DOC.due("of one who is gone", 1, y.lastHeirOf(0));
        });
        DOC.of(24, INDEX_PERSON,
                () -> Made.noSuchPerson(DOC, "lastHeirOf", MissRegistry::lastHeirOf));
        DOC.of(25, "Returns what a fate costs this one.", () -> {
            int[] lucks = {0, 9, 10, 19, 20, 79, 80, 89, 90, 99};
            int[] costs = {14, 14, 13, 13, 12, 7, 6, 6, 5, 5};
            MissRegistry x = Made.persons(lucks);
            for (int person = 0; person < 10; person++) {
                DOC.due("luck " + lucks[person], costs[person], x.priceFor(person));
                x.hit(person);
                DOC.due("gone, luck " + lucks[person], costs[person], x.priceFor(person));
            }
            MissRegistry y = Made.persons(9);
            y.pass(1);
            DOC.due("luck 9, a night on", 13, y.priceFor(0));
            y.miss(0, 50);
            DOC.due("luck 9, a miss on", 14, y.priceFor(0));
        });
        DOC.of(25, INDEX_PERSON,
                () -> Made.noSuchPerson(DOC, "priceFor", MissRegistry::priceFor));
    }

    private static void promises26And27() {
        DOC.of(26, "Returns how many misses of this one there were.", () -> {
            DOC.due("none", 0, Made.sized(1, 1, 0).missesOf(0));
            DOC.due("none of the last", 0, Made.sized(10, 6, 9).missesOf(9));
            DOC.due("one of the last", 1, Made.sized(10, 6, 10).missesOf(9));
            DOC.due("all 60", 60, Made.sized(1, 1, 60).missesOf(0));
            DOC.due("all 60, not certified", 60, Made.sized(1, 0, 60).missesOf(0));
            MissRegistry x = Made.sized(10, 6, 60);
            x.hit(9);
            DOC.due("of one who is gone", 6, x.missesOf(9));
        });
        DOC.of(26, INDEX_PERSON,
                () -> Made.noSuchPerson(DOC, "missesOf", MissRegistry::missesOf));
        DOC.of(27, "Returns the fewest inches that were certified for this one; 0 if none were.",
                Bounds10To33Test::closest);
        DOC.of(27, INDEX_PERSON,
                () -> Made.noSuchPerson(DOC, "closestOf", MissRegistry::closestOf));
    }

    private static void closest() {
        DOC.due("no miss", 0, Made.sized(1, 1, 0).closestOf(0));
        DOC.due("misses, none certified", 0, Made.sized(1, 0, 60).closestOf(0));
        MissRegistry x = Made.with(Made.persons(99, 99), 9);
        x.miss(1, 60);
        DOC.due("of the other", 0, x.closestOf(0));
        x.miss(0, 60);
        DOC.due("60, told as it is", 60, x.closestOf(0));
        x.miss(0, 60);
        DOC.due("60, told as 59", 59, x.closestOf(0));
        x.miss(0, 60);
        DOC.due("59 again", 59, x.closestOf(0));
        x.miss(0, 60);
        DOC.due("60, told as 58", 58, x.closestOf(0));
        x.turnDuty(0);
        x.miss(0, 1);
        DOC.due("a closer one is not certified", 58, x.closestOf(0));
        x.turnDuty(0);
        x.miss(0, 1);
        DOC.due("1 inch, the fewest there can be", 1, x.closestOf(0));
        x.pass(9);
        x.miss(0, 2);
        DOC.due("2 behind 1", 1, x.closestOf(0));
        x.hit(0);
        DOC.due("of one who is gone", 1, x.closestOf(0));
        DOC.due("of the other behind all", 60, x.closestOf(1));
        MissRegistry y = Made.sized(1, 6, 59);
        y.pass(30);
        y.miss(0, 7);
        DOC.due("the 60th is the closest", 7, y.closestOf(0));
    }

    // ---- of witnesses and misses

    private static void promises28To30() {
        DOC.of(28, "Returns the nerve.", () -> {
            MissRegistry x = Made.witnesses(0, 9, 2, 3, 1, 8);
            int[] nerves = {0, 9, 2, 3, 1, 8};
            for (int witness = 0; witness < 6; witness++) {
                DOC.due("on duty", nerves[witness], x.nerveOf(witness));
                x.turnDuty(witness);
                DOC.due("off duty", nerves[witness], x.nerveOf(witness));
            }
        });
        DOC.of(28, INDEX_WITNESS,
                () -> Made.noSuchWitness(DOC, "nerveOf", MissRegistry::nerveOf));
        DOC.of(29, "Returns whether this one is on duty.", () -> {
            MissRegistry x = Made.witnesses(0, 9, 2, 3, 1, 8);
            for (int witness = 0; witness < 6; witness++) {
                DOC.due("at first", true, x.isOnDuty(witness));
                x.turnDuty(witness);
                DOC.due("turned", false, x.isOnDuty(witness));
                DOC.due("the last", witness < 5, x.isOnDuty(5));
            }
        });
        DOC.of(29, INDEX_WITNESS,
                () -> Made.noSuchWitness(DOC, "isOnDuty", MissRegistry::isOnDuty));
        DOC.of(30, "Returns what this one would tell of it now, on duty or not; 0 for nothing.",
                Bounds10To33Test::told);
        DOC.of(30, INDEX_WITNESS, () -> {
            Made.noSuchWitness(DOC, "wouldTell(.., 20)", (x, w) -> x.wouldTell(w, 20));
            // The inches are wrong as well, but that exception is named second.
            for (int none : new int[] {-1, 2, Integer.MIN_VALUE, Integer.MAX_VALUE}) {
                DOC.index("wouldTell(" + none + ", 0)", () -> Made.sized(10, 2, 12),
                        x -> x.wouldTell(none, 0));
                DOC.index("wouldTell(" + none + ", 61)", () -> Made.sized(10, 2, 12),
                        x -> x.wouldTell(none, 61));
            }
            DOC.index("wouldTell(0, 0), empty", MissRegistry::new, x -> x.wouldTell(0, 0));
        });
        DOC.of(30, "Throws `IllegalArgumentException` if inches is not 1 to 60", () -> {
            Made.inchesOneToSixty(DOC, "wouldTell(1, ..)", (x, inches) -> x.wouldTell(1, inches));
            DOC.argument("wouldTell(0, 0), shaken", () -> Made.witnesses(2),
                    x -> x.wouldTell(0, 0));
            DOC.argument("wouldTell(0, 61), shaken", () -> Made.witnesses(2),
                    x -> x.wouldTell(0, 61));
        });
    }

    private static void told() {
        int[] fewer = {3, 2, 2, 1, 1, 0, 0};
        for (int nerve = 0; nerve <= 9; nerve++) {
            for (boolean duty : new boolean[] {true, false}) {
                MissRegistry x = Made.witnesses(nerve);
                if (!duty) {
                    x.turnDuty(0);
                }
                for (int inches = 1; inches <= 60; inches++) {
                    int due = nerve <= 2 ? 0 : Math.max(1, inches - fewer[nerve - 3]);
                    DOC.due("nerve " + nerve + ", on duty " + duty + ", " + inches + " inches",
                            due, x.wouldTell(0, inches));
                }
            }
        }
        MissRegistry y = Made.sized(1, 1, 0);
        DOC.due("9 now", 20, y.wouldTell(0, 20));
        y.miss(0, 1);
        DOC.due("6 now", 19, y.wouldTell(0, 20));
        y.miss(0, 1);
        DOC.due("3 now", 17, y.wouldTell(0, 20));
        y.miss(0, 60);
        DOC.due("2 now", 0, y.wouldTell(0, 20));
        y.pass(1);
        DOC.due("3 again", 17, y.wouldTell(0, 20));
    }

    private static void promises31And32() {
        DOC.of(31, "Returns whose it was.", () -> {
            MissRegistry x = Made.sized(10, 6, 60);
            for (int miss = 0; miss < 60; miss++) {
                DOC.due("of miss " + miss, miss % 10, x.personOf(miss));
            }
            x.hit(9);
            DOC.due("of one who is gone", 9, x.personOf(59));
        });
        DOC.of(31, INDEX_MISS, () -> Made.noSuchMiss(DOC, "personOf", MissRegistry::personOf));
        DOC.of(32, "Returns the certified inches; 0 if it was not certified.", () -> {
            MissRegistry x = Made.sized(10, 1, 60);
            for (int miss = 0; miss < 60; miss++) {
                int[] due = {60, 60, 59, 59, 58, 58, 57};
                DOC.due("of miss " + miss, miss < 7 ? due[miss] : 0, x.inchesOf(miss));
            }
            x.pass(30);
            x.turnDuty(0);
            DOC.due("later nights change nothing", 0, x.inchesOf(59));
            DOC.due("nor does the duty", 57, x.inchesOf(6));
            MissRegistry y = Made.with(Made.persons(0), 3);
            y.miss(0, 1);
            DOC.due("1 inch", 1, y.inchesOf(0));
        });
        DOC.of(32, INDEX_MISS, () -> Made.noSuchMiss(DOC, "inchesOf", MissRegistry::inchesOf));
    }

    private static void promise33() {
        DOC.of(33, "Returns the seal of its certificate.", () -> {
            // Person 0 to 9, inches 60 down to 1, and not certified: each letter counts.
            for (int inches = 60; inches >= 1; inches--) {
                MissRegistry x = Made.with(Made.sized(10, 0, 0), 9);
                int person = inches % 10;
                x.miss(person, inches);
                DOC.due("of " + inches + " inches",
                        seal("person " + person + ": " + inches + " inches"), x.sealOf(0));
            }
            MissRegistry y = Made.sized(10, 0, 60);
            for (int miss = 0; miss < 60; miss++) {
                DOC.due("of miss " + miss, seal("person " + miss % 10 + ": not certified"),
                        y.sealOf(miss));
            }
            y.hit(9);
            DOC.due("of one who is gone", seal("person 9: not certified"), y.sealOf(59));
            MissRegistry z = Made.with(Made.persons(50, 50), 9);
            z.miss(1, 10);
            z.turnDuty(0);
            DOC.due("later duty changes nothing", seal("person 1: 10 inches"), z.sealOf(0));
        });
        DOC.of(33, INDEX_MISS, () -> Made.noSuchMiss(DOC, "sealOf", MissRegistry::sealOf));
    }

    /** In long numbers, cut to 32 bits at each letter, as the wrap-around is what is tested. */
    private static long seal(String text) {
        long seal = 7;
        for (int i = 0; i < text.length(); i++) {
            seal = (seal * 31 + text.charAt(i)) % (1L << 32);
        }
        return seal < 1L << 31 ? seal : seal - (1L << 32);
    }
}
