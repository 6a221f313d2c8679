/** The boundary cases that the document names under 'Terms', sentence by sentence. */
public final class BoundsOfTermsTest {
    private static final Sentences DOC = new Sentences();

    public static void main(String[] args) {
        rows();
        price();
        lastHeir();
        tales();
        certificates();
        refunds();
        losses();
        hits();
        nights();
        refusals();
        DOC.end(Sentences.TERMS, Sentences.TERMS);
    }

    private static void of(String sentence, Runnable test) {
        DOC.of(Sentences.TERMS, sentence, test);
    }

    // ---- what there is at first, and at most

    private static void rows() {
        of("All numbers are whole, and / is cut towards 0.", () -> {
            DOC.due("a price, of 9 lacking", 5, Made.persons(90).priceFor(0));
            DOC.due("a price, of 19 lacking", 6, Made.persons(80).priceFor(0));
            DOC.due("told with 1 lacking", 20, Made.witnesses(8).wouldTell(0, 20));
            DOC.due("told with 3 lacking", 19, Made.witnesses(6).wouldTell(0, 20));
            MissRegistry x = Made.persons(50, 51, 50);
            x.miss(0, 51);
            DOC.due("luck less by 9 lacking", 50, x.luckOf(0));
            x.miss(0, 41);
            DOC.due("luck less by 19 lacking", 49, x.luckOf(0));
            x.setHeir(1, 2);
            x.hit(1);
            DOC.due("half of 51 more", 75, x.luckOf(2));
        });
        of("Time is told in nights, from 0.", () ->
                DOC.due("night", 0, new MissRegistry().night()));
        of("At most 10, numbered from 0; each is alive (at first) or gone, has a luck, 0 to 99, "
                + "a purse with coins (100, at first), fates, 0 to 9 (none, at first), and an "
                + "heir, who is another person, or none (none, at first).", () -> {
                MissRegistry x = new MissRegistry();
                for (int person = 0; person < 10; person++) {
                    DOC.due("number", person, x.addPerson(11 * person));
                    DOC.due("alive", true, x.isAlive(person));
                    DOC.due("luck", 11 * person, x.luckOf(person));
                    DOC.due("purse", 100, x.purseOf(person));
                    DOC.due("fates", 0, x.fatesOf(person));
                    DOC.due("heir", -1, x.heirOf(person));
                }
            });
        of("Coins for fates go to the fund (0 coins, at first).", () -> {
            MissRegistry x = Made.persons(0);
            DOC.due("fund at first", 0, x.fund());
            for (int fates = 1; fates <= 7; fates++) {
                x.buyFate(0);
                DOC.due("fund", 14 * fates, x.fund());
                DOC.due("purse", 100 - 14 * fates, x.purseOf(0));
            }
        });
        of("At most 6, numbered likewise; each has a nerve, 0 to 9, and is on duty (at first), "
                + "or off duty.", () -> {
                MissRegistry x = new MissRegistry();
                int[] nerves = {0, 9, 2, 3, 1, 8};
                for (int witness = 0; witness < 6; witness++) {
                    DOC.due("number", witness, x.addWitness(nerves[witness]));
                    DOC.due("on duty", true, x.isOnDuty(witness));
                    DOC.due("nerve", nerves[witness], x.nerveOf(witness));
                }
            });
        of("Misses are numbered from 0 in their order; at most 60 are kept.", () -> {
            MissRegistry x = Made.with(Made.sized(10, 0, 0), 9);
            for (int miss = 0; miss < 60; miss++) {
                x.miss(9 - miss % 10, 60);
                DOC.due("misses", miss + 1, x.misses());
                DOC.due("whose", 9 - miss % 10, x.personOf(miss));
            }
            DOC.state("the 61st", () -> Made.sized(10, 6, 60), y -> y.miss(0, 60));
        });
    }

    private static void price() {
        of("A fate costs this one 5 coins, and what the luck lacks to 99, / 10.", () -> {
            for (int luck = 0; luck <= 99; luck++) {
                // 99 lacks nothing; each ten that are lacking in full cost a coin.
                int due = 5;
                for (int lacking = 10; lacking <= 99 - luck; lacking += 10) {
                    due++;
                }
                DOC.due("luck " + luck, due, Made.persons(luck).priceFor(0));
                DOC.due("luck " + luck + ", paid", due, Made.persons(luck).buyFate(0));
            }
        });
    }

    // ---- the last heir

    /** Heirs by person, -1 for none; then those who are gone are hit, before they inherit. */
    private static MissRegistry family(int[] heirs, int... gone) {
        MissRegistry x = Made.sized(heirs.length, 0, 0);
        for (int person = 0; person < heirs.length; person++) {
            x.setHeir(person, heirs[person]);
        }
        for (int person : gone) {
            x.hit(person);
        }
        return x;
    }

    private static void lastHeir() {
        of("The last heir of a person: the heir, if this one is alive, otherwise the heir's "
                + "heir, and so on;", () -> {
                DOC.due("alive", 1, family(new int[] {1, 2, -1}).lastHeirOf(0));
                DOC.due("one gone", 2, family(new int[] {1, 2, -1}, 1).lastHeirOf(0));
                int[] line = {1, 2, 3, 4, 5, 6, 7, 8, 9, -1};
                DOC.due("the longest way", 9,
                        family(line, 1, 2, 3, 4, 5, 6, 7, 8).lastHeirOf(0));
                DOC.due("of one who is gone", 9,
                        family(line, 0, 1, 2, 3, 4, 5, 6, 7, 8).lastHeirOf(0));
                int[] back = {-1, 0, 1, 2, 3, 4, 5, 6, 7, 8};
                DOC.due("the longest way down", 0,
                        family(back, 1, 2, 3, 4, 5, 6, 7, 8).lastHeirOf(9));
            });
        of("none, if somebody on this way has no heir, or the way comes to somebody a second "
                + "time, or back to the person.", () -> {
                DOC.due("no heir", -1, family(new int[] {-1, 0}).lastHeirOf(0));
                DOC.due("a gone heir has none", -1,
                        family(new int[] {1, -1}, 1).lastHeirOf(0));
                DOC.due("the last of a long way has none", -1,
                        family(new int[] {1, 2, 3, 4, 5, 6, 7, 8, 9, -1}, 1, 2, 3, 4, 5, 6, 7, 8,
                                9).lastHeirOf(0));
                DOC.due("alive, with the person as heir", 1,
                        family(new int[] {1, 0}).lastHeirOf(0));
                DOC.due("back to the person at once", -1,
                        family(new int[] {1, 0}, 1).lastHeirOf(0));
                DOC.due("back to the person, who is gone", -1,
                        family(new int[] {1, 0}, 0, 1).lastHeirOf(0));
                DOC.due("back to the person, a long way", -1,
                        family(new int[] {1, 2, 3, 4, 5, 6, 7, 8, 9, 0}, 1, 2, 3, 4, 5, 6, 7, 8,
                                9).lastHeirOf(0));
                DOC.due("somebody a second time", -1,
                        family(new int[] {1, 2, 1}, 1, 2).lastHeirOf(0));
                DOC.due("somebody a second time, behind a long way", -1,
                        family(new int[] {1, 2, 3, 4, 5, 6, 7, 8, 9, 8}, 1, 2, 3, 4, 5, 6, 7, 8,
                                9).lastHeirOf(0));
                DOC.due("somebody alive ahead of it", 2,
                        family(new int[] {1, 2, 1}, 1).lastHeirOf(0));
            });
    }

    // ---- what is told and certified

    private static void tales() {
        of("A witness with a nerve of 2 or less is shaken, and tells nothing.", () -> {
            for (int nerve = 0; nerve <= 9; nerve++) {
                MissRegistry x = Made.with(Made.persons(50), nerve);
                DOC.due("shaken at " + nerve, nerve <= 2 ? 1 : 0, x.shaken());
                DOC.due("tells nothing at " + nerve, nerve <= 2, x.wouldTell(0, 60) == 0);
                DOC.due("no certificate at " + nerve, nerve <= 2, x.miss(0, 60) == 0);
            }
        });
        of("Of a miss by some inches a witness who is not shaken tells so many fewer: what the "
                + "nerve lacks to 9, / 2; at least 1 inch.", () -> {
                int[] fewer = {3, 2, 2, 1, 1, 0, 0};
                for (int nerve = 3; nerve <= 9; nerve++) {
                    int less = fewer[nerve - 3];
                    for (int inches = 1; inches <= 60; inches++) {
                        int due = inches - less < 1 ? 1 : inches - less;
                        DOC.due(inches + " at " + nerve, due,
                                Made.witnesses(nerve).wouldTell(0, inches));
                    }
                }
            });
    }

    private static void certificates() {
        of("Certified inches of a miss: the middle one of what witnesses on duty tell, in "
                + "ascending order; of two in the middle the smaller one.", () -> {
                middle("one", 20, 9);
                middle("two", 17, 9, 3);
                middle("two, ascending", 17, 3, 9);
                middle("two alike", 20, 8, 9);
                middle("three", 18, 9, 3, 4);
                middle("three, ascending", 18, 3, 4, 9);
                middle("four", 18, 9, 3, 6, 4);
                middle("four, two alike in the middle", 18, 9, 4, 5, 3);
                middle("five", 18, 9, 3, 8, 5, 4);
                middle("six", 18, 3, 9, 4, 9, 3, 9);
                middle("six, ascending", 18, 3, 3, 4, 6, 8, 9);
                middle("six, descending", 18, 9, 8, 6, 4, 3, 3);
                middle("a shaken one counts for nothing", 20, 2, 9, 0);
                middle("a shaken one in the middle", 17, 3, 2, 9);
                MissRegistry x = Made.with(Made.persons(50), 3, 9, 3);
                x.turnDuty(0);
                x.turnDuty(2);
                DOC.due("those off duty count for nothing", 20, x.miss(0, 20));
            });
        of("Without a witness on duty who is not shaken the miss is not certified.", () -> {
            middle("no witness", 0);
            middle("one of 2", 0, 2);
            middle("one of 3", 17, 3);
            middle("six shaken", 0, 2, 2, 1, 1, 0, 0);
            middle("the sixth not", 17, 2, 2, 1, 1, 0, 3);
            MissRegistry x = Made.with(Made.persons(50), 9, 2);
            x.turnDuty(0);
            DOC.due("the calm one off duty", 0, x.wouldCertify(20));
            DOC.due("the calm one off duty, missed", 0, x.miss(0, 20));
            DOC.due("certified", 0, x.certified());
        });
        of("The certificate of a miss is a text: \"person \", the number of the person, \": \", "
                + "then the certified inches and \" inches\", or \"not certified\".", () -> {
                MissRegistry x = Made.with(Made.sized(10, 0, 0), 3);
                x.miss(0, 4);
                x.turnDuty(0);
                x.miss(9, 60);
                DOC.due("1 inch is inches too", seal("person 0: 1 inches"), x.sealOf(0));
                DOC.due("not certified", seal("person 9: not certified"), x.sealOf(1));
            });
        of("Its seal is a number: it starts with 7; for each letter of the text, blanks and all "
                + "else as well, it becomes itself * 31 + the code of the letter, which wraps "
                + "around as a 32-bit integer.", () -> {
                boolean below = false;
                boolean above = false;
                for (int inches = 1; inches <= 60; inches++) {
                    MissRegistry x = Made.with(Made.persons(50), 9);
                    x.miss(0, inches);
                    int seal = x.sealOf(0);
                    DOC.due(inches + " inches", seal("person 0: " + inches + " inches"), seal);
                    below |= seal < 0;
                    above |= seal > 0;
                }
                DOC.due("some wrap around to less than 0, some do not", true, below && above);
            });
    }

    /** What is certified of 20 inches, asked and missed. */
    private static void middle(String what, int due, int... nerves) {
        MissRegistry x = Made.with(Made.persons(50), nerves);
        DOC.due(what, due, x.wouldCertify(20));
        DOC.due(what + ", missed", due, x.miss(0, 20));
        DOC.due(what + ", kept", due, x.inchesOf(0));
    }

    private static int seal(String text) {
        int seal = 7;
        for (char letter : text.toCharArray()) {
            seal = seal * 31 + letter;
        }
        return seal;
    }

    // ---- what a miss does

    private static void refunds() {
        of("1. It is certified, or not.", () -> {
            // Ahead of all else: by the nerve as it is before it gets less by this miss.
            MissRegistry x = Made.with(Made.persons(50), 3);
            DOC.due("a nerve of 3, before it is 0", 2, x.miss(0, 5));
            DOC.due("certified", 1, x.certified());
            DOC.due("a nerve of 0", 0, x.miss(0, 5));
            DOC.due("not certified", 1, x.certified());
            DOC.due("both are misses", 2, x.misses());
        });
        of("2. If it is certified with 24 inches or less, and the person has a fate, that one is "
                + "used up, and refunded:", () -> {
                refund("24 inches", 9, 24, 5);
                refund("25 inches", 9, 25, 0);
                refund("25 inches, told as 24", 7, 25, 5);
                refund("26 inches, told as 25", 7, 26, 0);
                refund("1 inch", 9, 1, 5);
                refund("60 inches", 9, 60, 0);
                refund("1 inch, not certified", 2, 1, 0);
                MissRegistry x = Made.with(Made.persons(99, 99), 9);
                x.buyFate(1);
                x.miss(0, 24);
                DOC.due("without a fate", 0, x.refunded());
                DOC.due("fates of who has none", 0, x.fatesOf(0));
                DOC.due("fates of the other", 1, x.fatesOf(1));
                MissRegistry y = Made.with(Made.persons(99), 9);
                y.buyFate(0);
                y.buyFate(0);
                y.miss(0, 24);
                DOC.due("one of two is used up", 1, y.fatesOf(0));
            });
        of("what a fate costs this one now, and a coin for each inch that the certified ones "
                + "lack to 24, but no more than the fund has, goes from the fund to the purse.",
                BoundsOfTermsTest::refundedCoins);
    }

    /** A fate of 5 coins, then the miss: what is refunded, where the fund has just these. */
    private static void refund(String what, int nerve, int inches, int due) {
        MissRegistry x = Made.with(Made.persons(99), nerve);
        x.buyFate(0);
        x.miss(0, inches);
        DOC.due(what + ", refunded", due, x.refunded());
        DOC.due(what + ", purse", 95 + due, x.purseOf(0));
        DOC.due(what + ", fund", 5 - due, x.fund());
        DOC.due(what + ", fates", due == 0 ? 1 : 0, x.fatesOf(0));
    }

    private static void refundedCoins() {
        // Two fates of 9 coins and one of 5: the fund has 23.
        for (int inches = 1; inches <= 24; inches++) {
            MissRegistry x = Made.with(Made.persons(50, 99), 9);
            x.buyFate(0);
            x.buyFate(0);
            x.buyFate(1);
            x.miss(0, inches);
            int due = 9 + 24 - inches > 23 ? 23 : 9 + 24 - inches;
            DOC.due(inches + " inches, refunded", due, x.refunded());
            DOC.due(inches + " inches, purse", 82 + due, x.purseOf(0));
            DOC.due(inches + " inches, fund", 23 - due, x.fund());
        }
        // What it costs now: neither when it was bought, nor with the luck behind this miss.
        MissRegistry x = Made.with(Made.persons(49, 49), 9);
        x.buyFate(0);
        x.buyFate(1);
        x.pass(1);
        x.miss(0, 24);
        DOC.due("luck 49 once, 50 now, 47 then", 9, x.refunded());
        DOC.due("luck then", 47, x.luckOf(0));
        // The inches that lack to 24 are the certified ones: 20 are told as 18.
        MissRegistry y = Made.with(Made.persons(99), 4);
        for (int i = 0; i < 3; i++) {
            y.buyFate(0);
        }
        y.miss(0, 20);
        DOC.due("20 inches, told as 18", 5 + 6, y.refunded());
        // The fund is empty: the fate is used up all the same.
        MissRegistry z = Made.with(Made.persons(99, 99), 9);
        z.buyFate(0);
        z.buyFate(1);
        z.miss(0, 1);
        DOC.due("all of the fund", 10, z.refunded());
        z.miss(1, 24);
        DOC.due("an empty fund", 10, z.refunded());
        DOC.due("fates", 0, z.fatesOf(1));
        DOC.due("purse", 95, z.purseOf(1));
        DOC.due("fund", 0, z.fund());
        refundedToEach();
    }

    /** It is this one's fate, price and purse, whoever else there is, alive or gone. */
    private static void refundedToEach() {
        for (int person = 0; person < 3; person++) {
            MissRegistry x = Made.with(Made.persons(50, 60, 70), 9);
            for (int other = 0; other < 3; other++) {
                if (other != person) {
                    x.hit(other);
                }
            }
            x.buyFate(person);
            int price = 9 - person;
            DOC.due("would be refunded", price + 14, x.wouldRefund(person, 10));
            x.miss(person, 10);
            DOC.due("refunded", price + 14, x.refunded());
            DOC.due("purse", 100 + 14, x.purseOf(person));
            DOC.due("fates", 0, x.fatesOf(person));
            DOC.due("luck", 50 + 10 * person - 5, x.luckOf(person));
            for (int other = 0; other < 3; other++) {
                if (other != person) {
                    DOC.due("purse of the other", 0, x.purseOf(other));
                    DOC.due("luck of the other", 50 + 10 * other, x.luckOf(other));
                }
            }
        }
    }

    private static void losses() {
        of("3. The luck of the person gets less by what the inches lack to 60, / 10; at least 0.",
                BoundsOfTermsTest::luckLosses);
        of("4. Each witness on duty, shaken or not, has 3 less nerve, if the inches are 5 or "
                + "less, 2 less, if they are 12 or less, otherwise 1 less; at least 0.",
                BoundsOfTermsTest::nerveLosses);
    }

    private static void luckLosses() {
        for (int inches = 1; inches <= 60; inches++) {
            int loss = 0;
            for (int lacking = 10; lacking <= 60 - inches; lacking += 10) {
                loss++;
            }
            for (int luck : new int[] {0, 1, 2, 3, 4, 5, 6, 99}) {
                MissRegistry x = Made.persons(luck, luck);
                x.miss(0, inches);
                String what = "luck " + luck + ", " + inches + " inches";
                DOC.due(what, luck < loss ? 0 : luck - loss, x.luckOf(0));
                DOC.due(what + ", the other", luck, x.luckOf(1));
            }
        }
        // The inches of the miss, not the certified ones: 51 are told as 48.
        MissRegistry y = Made.with(Made.persons(50), 3);
        DOC.due("51 inches", 48, y.miss(0, 51));
        DOC.due("luck behind 51 inches", 50, y.luckOf(0));
    }

    private static void nerveLosses() {
        for (int inches = 1; inches <= 60; inches++) {
            int loss = inches <= 5 ? 3 : inches <= 12 ? 2 : 1;
            for (int nerve = 0; nerve <= 9; nerve++) {
                MissRegistry x = Made.with(Made.persons(50), nerve, nerve, 9, nerve);
                x.turnDuty(1);
                x.miss(0, inches);
                String what = "nerve " + nerve + ", " + inches + " inches";
                int due = nerve < loss ? 0 : nerve - loss;
                DOC.due(what, due, x.nerveOf(0));
                DOC.due(what + ", the last", due, x.nerveOf(3));
                DOC.due(what + ", off duty", nerve, x.nerveOf(1));
                DOC.due(what + ", the other", 9 - loss, x.nerveOf(2));
            }
        }
        // The inches of the miss, not the certified ones: 6 are told as 3, and 13 as 10.
        MissRegistry y = Made.with(Made.persons(50), 3, 3);
        DOC.due("6 inches", 3, y.miss(0, 6));
        DOC.due("nerve behind 6 inches", 1, y.nerveOf(0));
        MissRegistry z = Made.with(Made.persons(50), 3, 3);
        DOC.due("13 inches", 10, z.miss(0, 13));
        DOC.due("nerve behind 13 inches", 2, z.nerveOf(0));
    }

    // ---- hits and nights

    private static void hits() {
        of("A hit of a person: this one is gone.", () -> {
            MissRegistry x = Made.persons(50, 50);
            x.hit(1);
            DOC.due("gone", false, x.isAlive(1));
            DOC.due("the other", true, x.isAlive(0));
        });
        of("The last heir as it is then has half of the luck more, cut, at most 99, and all "
                + "coins of the purse;", BoundsOfTermsTest::inherited);
        of("without a last heir the coins go to the fund.", () -> {
            MissRegistry x = Made.persons(50, 50);
            x.buyFate(0);
            x.hit(0);
            DOC.due("no heir", 9 + 91, x.fund());
            x.setHeir(1, 0);
            x.hit(1);
            DOC.due("the heir gone", 200, x.fund());
            DOC.due("purse of the gone heir", 0, x.purseOf(0));
            DOC.due("luck of the gone heir", 50, x.luckOf(0));
            MissRegistry y = Made.persons(50, 50);
            y.setHeir(0, 1);
            y.hit(0);
            DOC.due("with one nothing goes there", 0, y.fund());
        });
        of("Fates are lost. The purse is empty then.", () -> {
            MissRegistry x = Made.persons(99, 99);
            for (int i = 0; i < 9; i++) {
                x.buyFate(0);
            }
            x.setHeir(0, 1);
            x.hit(0);
            DOC.due("fates", 0, x.fatesOf(0));
            DOC.due("purse", 0, x.purseOf(0));
            DOC.due("fates of the heir", 0, x.fatesOf(1));
            DOC.due("fund", 45, x.fund());
            DOC.due("refunded", 0, x.refunded());
        });
    }

    private static void inherited() {
        for (int luck = 0; luck <= 99; luck++) {
            for (int heirs : new int[] {0, 49, 50, 51, 98, 99}) {
                MissRegistry x = Made.persons(luck, heirs, 7);
                x.setHeir(0, 1);
                x.hit(0);
                int due = heirs + (luck - luck % 2) / 2;
                String what = "luck " + luck + " to " + heirs;
                DOC.due(what, due > 99 ? 99 : due, x.luckOf(1));
                DOC.due(what + ", left as it was", luck, x.luckOf(0));
                DOC.due(what + ", somebody else", 7, x.luckOf(2));
                DOC.due(what + ", coins", 200, x.purseOf(1));
            }
        }
        // As it is then: the heir is gone by now, so that the heir's heir has it all.
        MissRegistry y = family(new int[] {1, 2, 3, -1}, 1);
        DOC.due("luck 52, and half of 51", 77, y.luckOf(2));
        y.hit(0);
        DOC.due("coins of both, and its own", 300, y.purseOf(2));
        DOC.due("luck 77, and half of 50", 99, y.luckOf(2));
        DOC.due("coins of the gone heir", 0, y.purseOf(1));
    }

    private static void nights() {
        of("A night: each witness on duty has 1 more nerve, each other one 2 more, at most 9;",
                () -> {
                for (int nerve = 0; nerve <= 9; nerve++) {
                    MissRegistry x = Made.witnesses(nerve, nerve);
                    x.turnDuty(1);
                    for (int night = 1; night <= 10; night++) {
                        x.pass(1);
                        String what = "nerve " + nerve + ", " + night + " nights";
                        DOC.due(what, Math.min(9, nerve + night), x.nerveOf(0));
                        DOC.due(what + ", off duty", Math.min(9, nerve + 2 * night),
                                x.nerveOf(1));
                    }
                    MissRegistry y = Made.witnesses(nerve, nerve);
                    y.turnDuty(1);
                    y.pass(30);
                    DOC.due("30 nights", 18, y.nerveOf(0) + y.nerveOf(1));
                }
            });
        of("each person alive has 1 more luck, at most 99.", () -> {
            MissRegistry x = Made.persons(0, 97, 98, 99, 50, 97);
            x.hit(4);
            x.hit(5);
            int[][] due = {{1, 98, 99, 99, 50, 97}, {2, 99, 99, 99, 50, 97},
                {3, 99, 99, 99, 50, 97}};
            for (int[] lucks : due) {
                x.pass(1);
                for (int person = 0; person < 6; person++) {
                    DOC.due("luck of " + person, lucks[person], x.luckOf(person));
                }
            }
        });
        of("Then the night is 1 greater.", () -> {
            MissRegistry x = new MissRegistry();
            x.pass(1);
            DOC.due("one", 1, x.night());
            x.pass(2);
            DOC.due("three", 3, x.night());
        });
    }

    // ---- refused calls

    private static void refusals() {
        of("A method that throws an exception changes nothing.", () -> {
            // Twins live alike, but for what one of them is refused ahead of each call.
            for (int calls = 0; calls <= LIFE.length; calls++) {
                MissRegistry calm = lived(calls, false);
                MissRegistry refused = lived(calls, true);
                DOC.due("digest behind " + calls + " calls", calm.digest(), refused.digest());
                DOC.due("all else behind " + calls + " calls", true,
                        Check.stateOf(calm).equals(Check.stateOf(refused)));
            }
        });
        of("If several exceptions apply, the one that is named first is thrown.", () -> {
            DOC.argument("addPerson", () -> Made.sized(10, 0, 0), x -> x.addPerson(-1));
            DOC.argument("addWitness", () -> Made.sized(0, 6, 0), x -> x.addWitness(-1));
            DOC.index("setHeir, none the same", () -> Made.sized(2, 0, 0), x -> x.setHeir(2, 2));
            DOC.index("setHeir, gone, no such heir", () -> family(new int[] {1, -1}, 0),
                    x -> x.setHeir(0, 2));
            DOC.argument("setHeir, gone, the same", () -> family(new int[] {1, -1}, 0),
                    x -> x.setHeir(0, 0));
            DOC.index("miss, nobody's, 0 inches", () -> Made.sized(2, 2, 3), x -> x.miss(2, 0));
            DOC.index("miss, nobody's, 60 there", () -> Made.sized(2, 2, 60),
                    x -> x.miss(2, 1));
            DOC.argument("miss, 0 inches, 60 there", () -> Made.sized(2, 2, 60),
                    x -> x.miss(1, 0));
            DOC.argument("miss, 0 inches, gone", () -> family(new int[] {1, -1}, 0),
                    x -> x.miss(0, 0));
            DOC.index("wouldTell", () -> Made.sized(2, 2, 3), x -> x.wouldTell(2, 61));
            DOC.index("wouldRefund", () -> Made.sized(2, 2, 3), x -> x.wouldRefund(2, 61));
        });
    }

    private interface Step {
        void on(MissRegistry x);
    }

    private static final Step[] LIFE = {
        x -> x.addPerson(50), x -> x.addWitness(9), x -> x.addPerson(99), x -> x.addWitness(4),
        x -> x.setHeir(0, 1), x -> x.buyFate(0), x -> x.buyFate(1), x -> x.miss(0, 20),
        x -> x.addPerson(0), x -> x.setHeir(1, 2), x -> x.turnDuty(0), x -> x.miss(1, 3),
        x -> x.pass(2), x -> x.buyFate(2), x -> x.hit(0), x -> x.miss(2, 12), x -> x.turnDuty(0),
        x -> x.miss(1, 24), x -> x.hit(1), x -> x.pass(30), x -> x.miss(2, 1), x -> x.hit(2)};

    private static final Step[] REFUSED = {
        x -> x.addPerson(100), x -> x.addWitness(10), x -> x.setHeir(0, 10),
        x -> x.setHeir(0, 0), x -> x.buyFate(10), x -> x.turnDuty(6), x -> x.miss(10, 20),
        x -> x.miss(0, 61), x -> x.hit(10), x -> x.pass(31), x -> x.pass(0),
        x -> x.wouldTell(0, 61), x -> x.wouldCertify(0), x -> x.wouldRefund(0, 0)};

    private static MissRegistry lived(int calls, boolean refused) {
        MissRegistry x = new MissRegistry();
        for (int i = 0; i < calls; i++) {
            for (int j = 0; refused && j < REFUSED.length; j++) {
                Step step = REFUSED[j];
                DOC.due("refused", false, Check.thrownBy(() -> step.on(x)).equals("nothing"));
            }
            LIFE[i].on(x);
        }
        return x;
    }
}
