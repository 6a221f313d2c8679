import java.util.ArrayList;
import java.util.Collections;
import java.util.HashSet;
import java.util.List;
import java.util.Set;

/**
 * The document told a second time, in a slow way of its own: what would be is tried on a copy,
 * texts are joined, lists are sorted. ModelTest holds MissRegistry against it.
 */
final class Model {
    private static final class Person {
        boolean alive = true;
        int luck;
        int purse = 100;
        int fates = 0;
        Person heir = null;
    }

    private static final class Witness {
        int nerve;
        boolean duty = true;
    }

    private static final class Miss {
        Person person;
        int inches;
        String certificate;
    }

    private final List<Person> people = new ArrayList<>();
    private final List<Witness> watchers = new ArrayList<>();
    private final List<Miss> past = new ArrayList<>();
    private int nights = 0;
    private int fund = 0;
    private int refunded = 0;

    private Model copy() {
        Model other = new Model();
        for (Person p : people) {
            Person q = new Person();
            q.alive = p.alive;
            q.luck = p.luck;
            q.purse = p.purse;
            q.fates = p.fates;
            other.people.add(q);
        }
        for (int i = 0; i < people.size(); i++) {
            if (people.get(i).heir != null) {
                other.people.get(i).heir = other.people.get(people.indexOf(people.get(i).heir));
            }
        }
        for (Witness w : watchers) {
            Witness v = new Witness();
            v.nerve = w.nerve;
            v.duty = w.duty;
            other.watchers.add(v);
        }
        other.nights = nights;
        other.fund = fund;
        other.refunded = refunded;
        return other;
    }

    /** Answers a call by its place in the face; a boolean counts 1 or 0. */
    long call(int which, int a, int b) {
        switch (which) {
            case 0: return addPerson(a);
            case 1: return addWitness(a);
            case 2: return setHeir(a, b);
            case 3: return buyFate(a);
            case 4: return turnDuty(a);
            case 5: return miss(a, b);
            case 6: return hit(a);
            case 7: return pass(a);
            case 8: return nights;
            case 9: return people.size();
            case 10: return people.stream().filter(p -> p.alive).count();
            case 11: return watchers.size();
            case 12: return watchers.stream().filter(w -> w.nerve <= 2).count();
            case 13: return fund;
            case 14: return refunded;
            case 15: return past.size();
            case 16: return past.stream().filter(m -> m.inches != 0).count();
            case 17: return person(a).alive ? 1 : 0;
            case 18: return person(a).luck;
            case 19: return person(a).purse;
            case 20: return person(a).fates;
            case 21: return people.indexOf(person(a).heir);
            case 22: return people.indexOf(lastHeir(person(a)));
            case 23: return price(person(a));
            case 24: return missesOf(person(a)).size();
            case 25: return closest(person(a));
            case 26: return witness(a).nerve;
            case 27: return witness(a).duty ? 1 : 0;
            case 28: return told(witness(a), inches(b));
            case 29: return people.indexOf(missAt(a).person);
            case 30: return missAt(a).inches;
            case 31: return seal(missAt(a).certificate);
            case 32: return certify(inches(a));
            case 33: return wouldRefund(a, b);
            case 34: return missesUntilShaken(inches(a));
            case 35: return nightsUntilCalm();
            case 36: return steadiest();
            case 37: return luckiest();
            case 38: return Double.doubleToLongBits(meanLuck());
            default: return digest();
        }
    }

    private Person person(int number) {
        if (number < 0 || number >= people.size()) {
            throw new IndexOutOfBoundsException();
        }
        return people.get(number);
    }

    private Witness witness(int number) {
        if (number < 0 || number >= watchers.size()) {
            throw new IndexOutOfBoundsException();
        }
        return watchers.get(number);
    }

    private Miss missAt(int number) {
        if (number < 0 || number >= past.size()) {
            throw new IndexOutOfBoundsException();
        }
        return past.get(number);
    }

    private static int inches(int inches) {
        return within(inches, 1, 60);
    }

    private static int within(int number, int least, int most) {
        if (number < least || number > most) {
            throw new IllegalArgumentException();
        }
        return number;
    }

    private static void state(boolean fine) {
        if (!fine) {
            throw new IllegalStateException();
        }
    }

    private int addPerson(int luck) {
        within(luck, 0, 99);
        state(people.size() < 10);
        Person p = new Person();
        p.luck = luck;
        people.add(p);
        return people.size() - 1;
    }

    private int addWitness(int nerve) {
        within(nerve, 0, 9);
        state(watchers.size() < 6);
        Witness w = new Witness();
        w.nerve = nerve;
        watchers.add(w);
        return watchers.size() - 1;
    }

    private int setHeir(int number, int heirNumber) {
        Person p = person(number);
        Person heir = heirNumber == -1 ? null : person(heirNumber);
        if (p == heir) {
            throw new IllegalArgumentException();
        }
        state(p.alive);
        int before = people.indexOf(p.heir);
        p.heir = heir;
        return before;
    }

    private int buyFate(int number) {
        Person p = person(number);
        int price = price(p);
        state(p.alive && p.fates != 9 && p.purse >= price);
        p.fates++;
        p.purse -= price;
        fund += price;
        return price;
    }

    private int turnDuty(int number) {
        Witness w = witness(number);
        w.duty = !w.duty;
        return w.duty ? 1 : 0;
    }

    private int miss(int number, int inches) {
        Person p = person(number);
        inches(inches);
        state(p.alive && past.size() < 60);
        Miss m = new Miss();
        m.person = p;
        m.inches = certify(inches);
        String told = m.inches == 0 ? "not certified" : m.inches + " inches";
        m.certificate = "person " + number + ": " + told;
        past.add(m);
        suffer(p, inches, m.inches);
        return m.inches;
    }

    private void suffer(Person p, int inches, int certified) {
        if (certified != 0 && certified <= 24 && p.fates != 0) {
            int coins = price(p);
            for (int i = certified; i < 24; i++) {
                coins++;
            }
            coins = coins > fund ? fund : coins;
            p.fates--;
            fund -= coins;
            p.purse += coins;
            refunded += coins;
        }
        p.luck = Math.max(p.luck - (60 - inches) / 10, 0);
        for (Witness w : watchers) {
            if (w.duty) {
                w.nerve = Math.max(w.nerve - (inches <= 5 ? 3 : inches <= 12 ? 2 : 1), 0);
            }
        }
    }

    private int hit(int number) {
        Person p = person(number);
        state(p.alive);
        p.alive = false;
        Person heir = lastHeir(p);
        if (heir == null) {
            fund += p.purse;
        } else {
            heir.luck = Math.min(99, heir.luck + p.luck / 2);
            heir.purse += p.purse;
        }
        p.purse = 0;
        p.fates = 0;
        return people.indexOf(heir);
    }

    private long pass(int count) {
        within(count, 1, 30);
        for (int i = 0; i < count; i++) {
            for (Witness w : watchers) {
                w.nerve = Math.min(9, w.nerve + (w.duty ? 1 : 2));
            }
            for (Person p : people) {
                p.luck = p.alive ? Math.min(99, p.luck + 1) : p.luck;
            }
            nights++;
        }
        return call(12, 0, 0);
    }

    private static int price(Person p) {
        return 5 + (99 - p.luck) / 10;
    }

    private static Person lastHeir(Person p) {
        Set<Person> met = new HashSet<>();
        met.add(p);
        for (Person next = p.heir; next != null && met.add(next); next = next.heir) {
            if (next.alive) {
                return next;
            }
        }
        return null;
    }

    private List<Miss> missesOf(Person p) {
        return past.stream().filter(m -> m.person == p).toList();
    }

    private int closest(Person p) {
        return missesOf(p).stream().mapToInt(m -> m.inches).filter(i -> i > 0).min().orElse(0);
    }

    private static int told(Witness w, int inches) {
        return w.nerve <= 2 ? 0 : Math.max(inches - (9 - w.nerve) / 2, 1);
    }

    private int certify(int inches) {
        List<Integer> tales = new ArrayList<>();
        for (Witness w : watchers) {
            if (w.duty && w.nerve > 2) {
                tales.add(told(w, inches));
            }
        }
        Collections.sort(tales);
        while (tales.size() > 2) {
            tales.remove(tales.size() - 1);
            tales.remove(0);
        }
        return tales.isEmpty() ? 0 : tales.get(0);
    }

    private static int seal(String text) {
        int seal = 7;
        for (char letter : text.toCharArray()) {
            seal = seal * 31 + letter;
        }
        return seal;
    }

    private int wouldRefund(int number, int inches) {
        boolean alive = person(number).alive;
        inches(inches);
        if (!alive) {
            return 0;
        }
        Model tried = copy();
        tried.miss(number, inches);
        return tried.refunded - refunded;
    }

    private int missesUntilShaken(int inches) {
        Model tried = copy();
        tried.addPersonAnyway();
        int count = 0;
        while (tried.watchers.stream().anyMatch(w -> w.duty && w.nerve > 2)) {
            tried.suffer(tried.people.get(tried.people.size() - 1), inches, 0);
            count++;
        }
        return count;
    }

    private void addPersonAnyway() {
        people.add(new Person());
    }

    private int nightsUntilCalm() {
        Model tried = copy();
        while (tried.watchers.stream().anyMatch(w -> w.nerve <= 2)) {
            tried.pass(1);
        }
        return tried.nights - nights;
    }

    private int steadiest() {
        int most = watchers.stream().filter(w -> w.duty).mapToInt(w -> w.nerve).max().orElse(-1);
        for (Witness w : watchers) {
            if (w.duty && w.nerve == most) {
                return watchers.indexOf(w);
            }
        }
        return -1;
    }

    private int luckiest() {
        int most = people.stream().filter(p -> p.alive).mapToInt(p -> p.luck).max().orElse(-1);
        for (Person p : people) {
            if (p.alive && p.luck == most) {
                return people.indexOf(p);
            }
        }
        return -1;
    }

    private double meanLuck() {
        return people.stream().filter(p -> p.alive).mapToInt(p -> p.luck).average().orElse(0);
    }

    private long digest() {
        List<Long> numbers = new ArrayList<>();
        for (int which = 8; which <= 16; which++) {
            numbers.add(call(which, 0, 0));
        }
        numbers.add(call(32, 20, 0));
        numbers.add(call(34, 10, 0));
        for (int which = 35; which <= 37; which++) {
            numbers.add(call(which, 0, 0));
        }
        int[] ofPersons = {17, 18, 19, 20, 21, 22, 24, 25};
        for (int p = 0; p < people.size(); p++) {
            for (int which : ofPersons) {
                numbers.add(call(which, p, 0));
            }
        }
        for (int w = 0; w < watchers.size(); w++) {
            numbers.add(call(26, w, 0));
            numbers.add(call(27, w, 0));
        }
        int latest = past.size() - 1;
        numbers.add(latest < 0 ? 0 : call(30, latest, 0));
        numbers.add(latest < 0 ? 0 : call(31, latest, 0));
        long d = 1951;
        for (long x : numbers) {
            d = d * 31 + x;
        }
        return d;
    }
}
