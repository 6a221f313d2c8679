/** Counts and prints answers that are not as due. */
final class Check {
    private int asked = 0;
    private int wrong = 0;

    int asked() {
        return asked;
    }

    void same(String what, long want, long got) {
        asked++;
        if (want != got) {
            report(what + " answered " + got + ", due is " + want);
        }
    }

    void same(String what, boolean want, boolean got) {
        same(what, want ? 1 : 0, got ? 1 : 0);
    }

    void sameDouble(String what, double want, double got) {
        asked++;
        if (Double.compare(want, got) != 0) {
            report(what + " answered " + got + ", due is " + want);
        }
    }

    void sameText(String what, String want, String got) {
        asked++;
        if (!want.equals(got)) {
            report(what + " is\n  " + got + "\n  due is\n  " + want);
        }
    }

    /**
     * The call throws exactly this exception, and changes nothing. Only the digest is compared, as
     * an object is good for 512 calls: all else is compared by Sentences, which has a twin.
     */
    void refused(String what, MissRegistry x, Class<? extends Exception> want, Runnable call) {
        long before = x.digest();
        String thrown = thrownBy(call);
        sameText(what + " throws", want.getName(), thrown);
        same("digest behind " + what, before, x.digest());
    }

    void indexRefused(String what, MissRegistry x, Runnable call) {
        refused(what, x, IndexOutOfBoundsException.class, call);
    }

    void argumentRefused(String what, MissRegistry x, Runnable call) {
        refused(what, x, IllegalArgumentException.class, call);
    }

    void stateRefused(String what, MissRegistry x, Runnable call) {
        refused(what, x, IllegalStateException.class, call);
    }

    /** The name of the exception's class, or "nothing". */
    static String thrownBy(Runnable call) {
        try {
            call.run();
            return "nothing";
        } catch (RuntimeException e) {
            return e.getClass().getName();
        }
    }

    /** All that one can see of a registry, written out. */
    static String stateOf(MissRegistry x) {
        StringBuilder text = new StringBuilder();
        text.append("night ").append(x.night()).append(" alive ").append(x.alive());
        text.append(" shaken ").append(x.shaken()).append(" fund ").append(x.fund());
        text.append(" refunded ").append(x.refunded()).append(" certified ").append(x.certified());
        int persons = x.persons();
        for (int p = 0; p < persons; p++) {
            text.append("; person ").append(p).append(' ').append(x.isAlive(p));
            text.append(' ').append(x.luckOf(p)).append(' ').append(x.purseOf(p));
            text.append(' ').append(x.fatesOf(p)).append(' ').append(x.heirOf(p));
            text.append(' ').append(x.lastHeirOf(p)).append(' ').append(x.priceFor(p));
            text.append(' ').append(x.missesOf(p)).append(' ').append(x.closestOf(p));
        }
        int witnesses = x.witnesses();
        for (int w = 0; w < witnesses; w++) {
            text.append("; witness ").append(w).append(' ').append(x.nerveOf(w));
            text.append(' ').append(x.isOnDuty(w)).append(' ').append(x.wouldTell(w, 30));
        }
        int misses = x.misses();
        for (int m = 0; m < misses; m++) {
            text.append("; miss ").append(m).append(' ').append(x.personOf(m));
            text.append(' ').append(x.inchesOf(m)).append(' ').append(x.sealOf(m));
        }
        text.append("; digest ").append(x.digest());
        return text.toString();
    }

    private void report(String line) {
        wrong++;
        if (wrong <= 50) {
            System.out.println(line);
        }
    }

    /** Ends the program: with 1 if an answer was wrong, or if nothing was asked. */
    void end() {
        System.out.println(asked + " answers asked, " + wrong + " not as due");
        System.exit(wrong == 0 && asked > 0 ? 0 : 1);
    }
}
