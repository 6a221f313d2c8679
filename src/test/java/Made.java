import java.util.function.ObjIntConsumer;

/** Registries to start from, and the numbers that no person, witness or miss has. */
final class Made {
    private Made() {
    }

    static MissRegistry persons(int... lucks) {
        MissRegistry x = new MissRegistry();
        for (int luck : lucks) {
            x.addPerson(luck);
        }
        return x;
    }

    static MissRegistry witnesses(int... nerves) {
        return with(new MissRegistry(), nerves);
    }

    static MissRegistry with(MissRegistry x, int... nerves) {
        for (int nerve : nerves) {
            x.addWitness(nerve);
        }
        return x;
    }

    /** So many of each kind; the misses are by 60 inches, and somebody's if there is anybody. */
    static MissRegistry sized(int persons, int witnesses, int misses) {
        MissRegistry x = new MissRegistry();
        for (int i = 0; i < persons; i++) {
            x.addPerson(50 + i);
        }
        for (int i = 0; i < witnesses; i++) {
            x.addWitness(9 - i);
        }
        for (int i = 0; i < misses && persons > 0; i++) {
            x.miss(i % persons, 60);
        }
        return x;
    }

    /** Nobody has the numbers just outside, nor those far outside, nor those of another kind. */
    static void noSuchPerson(Sentences doc, String what, ObjIntConsumer<MissRegistry> call) {
        for (int count : new int[] {0, 1, 2, 9, 10}) {
            for (int none : outside(count)) {
                doc.index(what + " of " + none + ", " + count + " persons",
                        () -> sized(count, 6, 12), x -> call.accept(x, none));
            }
            for (int person = 0; person < count; person++) {
                int number = person;
                doc.taken(what + " of " + number + ", " + count + " persons",
                        () -> sized(count, 6, 12), x -> call.accept(x, number));
            }
        }
    }

    static void noSuchWitness(Sentences doc, String what, ObjIntConsumer<MissRegistry> call) {
        for (int count : new int[] {0, 1, 2, 5, 6}) {
            for (int none : outside(count)) {
                doc.index(what + " of " + none + ", " + count + " witnesses",
                        () -> sized(10, count, 12), x -> call.accept(x, none));
            }
            for (int witness = 0; witness < count; witness++) {
                int number = witness;
                doc.taken(what + " of " + number + ", " + count + " witnesses",
                        () -> sized(10, count, 12), x -> call.accept(x, number));
            }
        }
    }

    static void noSuchMiss(Sentences doc, String what, ObjIntConsumer<MissRegistry> call) {
        for (int count : new int[] {0, 1, 3, 59, 60}) {
            for (int none : outside(count)) {
                doc.index(what + " of " + none + ", " + count + " misses",
                        () -> sized(10, 6, count), x -> call.accept(x, none));
            }
            for (int miss = 0; miss < count; miss++) {
                int number = miss;
                doc.taken(what + " of " + number + ", " + count + " misses",
                        () -> sized(10, 6, count), x -> call.accept(x, number));
            }
        }
    }

    /** Inches 0 and 61 are refused, and 1 and 60 are not. */
    static void inchesOneToSixty(Sentences doc, String what, ObjIntConsumer<MissRegistry> call) {
        for (int none : new int[] {0, 61, -1, -60, 100, Integer.MIN_VALUE, Integer.MAX_VALUE}) {
            doc.argument(what + ", " + none + " inches", () -> sized(2, 2, 3),
                    x -> call.accept(x, none));
        }
        for (int inches : new int[] {1, 2, 30, 59, 60}) {
            doc.taken(what + ", " + inches + " inches", () -> sized(2, 2, 3),
                    x -> call.accept(x, inches));
        }
    }

    private static int[] outside(int count) {
        return new int[] {-1, -2, count, count + 1, Integer.MIN_VALUE, Integer.MAX_VALUE};
    }
}
