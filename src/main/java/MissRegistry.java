/**
 * A registry of near misses: persons buy fates and are nearly hit, witnesses tell by how many
 * inches, and for what is certified of it fates are refunded.
 *
 * All rows are made once, by the constructor; no call makes an object.
 */
public final class MissRegistry {
    private static final int NONE = -1;

    private static final int MOST_PERSONS = 10;
    private static final int MOST_LUCK = 99;
    private static final int MOST_FATES = 9;
    private static final int FIRST_COINS = 100;
    private static final int LEAST_PRICE = 5;

    private static final int MOST_WITNESSES = 6;
    private static final int MOST_NERVE = 9;
    private static final int SHAKEN_NERVE = 2;

    private static final int MOST_MISSES = 60;
    private static final int MOST_INCHES = 60;
    private static final int REFUND_INCHES = 24;
    private static final int MOST_NIGHTS = 30;

    private final boolean[] living;
    private final int[] luck;
    private final int[] purse;
    private final int[] fates;
    private final int[] heirs;
    private int personCount;

    private final int[] nerve;
    private final boolean[] onDuty;
    private final int[] tales;
    private int witnessCount;

    private final int[] missPerson;
    private final int[] missInches;
    private int missCount;

    private int nightCount;
    private int fundCoins;
    private int refundedCoins;

    public MissRegistry() {
        living = new boolean[MOST_PERSONS];
        luck = new int[MOST_PERSONS];
        purse = new int[MOST_PERSONS];
        fates = new int[MOST_PERSONS];
        heirs = new int[MOST_PERSONS];
        nerve = new int[MOST_WITNESSES];
        onDuty = new boolean[MOST_WITNESSES];
        tales = new int[MOST_WITNESSES];
        missPerson = new int[MOST_MISSES];
        missInches = new int[MOST_MISSES];
    }

    // ---- persons and witnesses

    public int addPerson(int luck) throws IllegalArgumentException, IllegalStateException {
        if (luck < 0 || luck > MOST_LUCK) {
            throw new IllegalArgumentException("luck is not 0 to 99");
        }
        if (personCount >= MOST_PERSONS) {
            throw new IllegalStateException("there are 10 persons");
        }
        int person = personCount;
        living[person] = true;
        this.luck[person] = luck;
        purse[person] = FIRST_COINS;
        fates[person] = 0;
        heirs[person] = NONE;
        personCount++;
        return person;
    }

    public int addWitness(int nerve) throws IllegalArgumentException, IllegalStateException {
        if (nerve < 0 || nerve > MOST_NERVE) {
            throw new IllegalArgumentException("nerve is not 0 to 9");
        }
        if (witnessCount >= MOST_WITNESSES) {
            throw new IllegalStateException("there are 6 witnesses");
        }
        int witness = witnessCount;
        this.nerve[witness] = nerve;
        onDuty[witness] = true;
        witnessCount++;
        return witness;
    }

    public int setHeir(int person, int heir)
            throws IndexOutOfBoundsException, IllegalArgumentException, IllegalStateException {
        requirePerson(person);
        if (heir != NONE) {
            requirePerson(heir);
        }
        if (person == heir) {
            throw new IllegalArgumentException("a person is no heir of itself");
        }
        requireAlive(person);
        int before = heirs[person];
        heirs[person] = heir;
        return before;
    }

    public int buyFate(int person) throws IndexOutOfBoundsException, IllegalStateException {
        requirePerson(person);
        requireAlive(person);
        if (fates[person] >= MOST_FATES) {
            throw new IllegalStateException("the person has 9 fates");
        }
        int price = fatePrice(person);
        if (purse[person] < price) {
            throw new IllegalStateException("the person has too few coins");
        }
        purse[person] -= price;
        fundCoins += price;
        fates[person]++;
        return price;
    }

    public boolean turnDuty(int witness) throws IndexOutOfBoundsException {
        requireWitness(witness);
        onDuty[witness] = !onDuty[witness];
        return onDuty[witness];
    }

    public int miss(int person, int inches)
            throws IndexOutOfBoundsException, IllegalArgumentException, IllegalStateException {
        requirePerson(person);
        requireInches(inches);
        requireAlive(person);
        if (missCount >= MOST_MISSES) {
            throw new IllegalStateException("there are 60 misses");
        }
        int certifiedInches = middleTale(inches);
        refundFate(person, certifiedInches);
        luck[person] = Math.max(0, luck[person] - (MOST_INCHES - inches) / 10);
        frightenWitnesses(nerveLoss(inches));
        missPerson[missCount] = person;
        missInches[missCount] = certifiedInches;
        missCount++;
        return certifiedInches;
    }

    public int hit(int person) throws IndexOutOfBoundsException, IllegalStateException {
        requirePerson(person);
        requireAlive(person);
        living[person] = false;
        int heir = findLastHeir(person);
        if (isPerson(heir)) {
            luck[heir] = Math.min(MOST_LUCK, luck[heir] + luck[person] / 2);
            purse[heir] += purse[person];
        } else {
            fundCoins += purse[person];
        }
        purse[person] = 0;
        fates[person] = 0;
        return heir;
    }

    public int pass(int nights) throws IllegalArgumentException {
        if (nights < 1 || nights > MOST_NIGHTS) {
            throw new IllegalArgumentException("nights are not 1 to 30");
        }
        for (int i = 0; i < nights; i++) {
            passOneNight();
        }
        return shaken();
    }

    // ---- the registry

    public int night() {
        return nightCount;
    }

    public int persons() {
        return personCount;
    }

    public int alive() {
        int count = 0;
        for (int person = 0; person < personCount; person++) {
            if (living[person]) {
                count++;
            }
        }
        return count;
    }

    public int witnesses() {
        return witnessCount;
    }

    public int shaken() {
        int count = 0;
        for (int witness = 0; witness < witnessCount; witness++) {
            if (isShaken(witness)) {
                count++;
            }
        }
        return count;
    }

    public int fund() {
        return fundCoins;
    }

    public int refunded() {
        return refundedCoins;
    }

    public int misses() {
        return missCount;
    }

    public int certified() {
        int count = 0;
        for (int miss = 0; miss < missCount; miss++) {
            if (missInches[miss] > 0) {
                count++;
            }
        }
        return count;
    }

    // ---- of persons

    public boolean isAlive(int person) throws IndexOutOfBoundsException {
        requirePerson(person);
        return living[person];
    }

    public int luckOf(int person) throws IndexOutOfBoundsException {
        requirePerson(person);
        return luck[person];
    }

    public int purseOf(int person) throws IndexOutOfBoundsException {
        requirePerson(person);
        return purse[person];
    }

    public int fatesOf(int person) throws IndexOutOfBoundsException {
        requirePerson(person);
        return fates[person];
    }

    public int heirOf(int person) throws IndexOutOfBoundsException {
        requirePerson(person);
        return heirs[person];
    }

    public int lastHeirOf(int person) throws IndexOutOfBoundsException {
        requirePerson(person);
        return findLastHeir(person);
    }

    public int priceFor(int person) throws IndexOutOfBoundsException {
        requirePerson(person);
        return fatePrice(person);
    }

    public int missesOf(int person) throws IndexOutOfBoundsException {
        requirePerson(person);
        int count = 0;
        for (int miss = 0; miss < missCount; miss++) {
            if (missPerson[miss] == person) {
                count++;
            }
        }
        return count;
    }

    public int closestOf(int person) throws IndexOutOfBoundsException {
        requirePerson(person);
        int closest = 0;
        for (int miss = 0; miss < missCount; miss++) {
            int inches = missInches[miss];
            if (missPerson[miss] == person && inches > 0 && (closest == 0 || inches < closest)) {
                closest = inches;
            }
        }
        return closest;
    }

    // ---- of witnesses and misses

    public int nerveOf(int witness) throws IndexOutOfBoundsException {
        requireWitness(witness);
        return nerve[witness];
    }

    public boolean isOnDuty(int witness) throws IndexOutOfBoundsException {
        requireWitness(witness);
        return onDuty[witness];
    }

    public int wouldTell(int witness, int inches)
            throws IndexOutOfBoundsException, IllegalArgumentException {
        requireWitness(witness);
        requireInches(inches);
        return tale(witness, inches);
    }

    public int personOf(int miss) throws IndexOutOfBoundsException {
        requireMiss(miss);
        return missPerson[miss];
    }

    public int inchesOf(int miss) throws IndexOutOfBoundsException {
        requireMiss(miss);
        return missInches[miss];
    }

    public int sealOf(int miss) throws IndexOutOfBoundsException {
        requireMiss(miss);
        return certificateSeal(missPerson[miss], missInches[miss]);
    }

    // ---- what would be

    public int wouldCertify(int inches) throws IllegalArgumentException {
        requireInches(inches);
        return middleTale(inches);
    }

    public int wouldRefund(int person, int inches)
            throws IndexOutOfBoundsException, IllegalArgumentException {
        requirePerson(person);
        requireInches(inches);
        return refundCoins(person, middleTale(inches));
    }

    public int missesUntilShaken(int inches) throws IllegalArgumentException {
        requireInches(inches);
        int witness = steadiest();
        if (!isWitness(witness)) {
            return 0;
        }
        // All on duty lose alike, so the steadiest of them is shaken last.
        int loss = nerveLoss(inches);
        int count = 0;
        while (count < MOST_NERVE && nerve[witness] - count * loss > SHAKEN_NERVE) {
            count++;
        }
        return count;
    }

    public int nightsUntilCalm() {
        int most = 0;
        for (int witness = 0; witness < witnessCount; witness++) {
            most = Math.max(most, nightsToCalm(witness));
        }
        return most;
    }

    public int steadiest() {
        int best = NONE;
        int bestNerve = -1;
        for (int witness = 0; witness < witnessCount; witness++) {
            if (onDuty[witness] && nerve[witness] > bestNerve) {
                best = witness;
                bestNerve = nerve[witness];
            }
        }
        return best;
    }

    public int luckiest() {
        int best = NONE;
        int bestLuck = -1;
        for (int person = 0; person < personCount; person++) {
            if (living[person] && luck[person] > bestLuck) {
                best = person;
                bestLuck = luck[person];
            }
        }
        return best;
    }

    public double meanLuck() {
        int count = 0;
        int sum = 0;
        for (int person = 0; person < personCount; person++) {
            if (living[person]) {
                count++;
                sum += luck[person];
            }
        }
        if (count == 0) {
            return 0.0;
        }
        return (double) sum / count;
    }

    public long digest() {
        long d = digestRegistry(1951L);
        for (int person = 0; person < personCount; person++) {
            d = digestPerson(d, person);
        }
        for (int witness = 0; witness < witnessCount; witness++) {
            d = mix(d, nerve[witness]);
            d = mix(d, asNumber(onDuty[witness]));
        }
        return digestLatestMiss(d);
    }

    // ---- what the calls share

    private boolean isPerson(int person) {
        return person >= 0 && person < personCount;
    }

    private boolean isWitness(int witness) {
        return witness >= 0 && witness < witnessCount;
    }

    private boolean isShaken(int witness) {
        return nerve[witness] <= SHAKEN_NERVE;
    }

    private void requirePerson(int person) {
        if (!isPerson(person)) {
            throw new IndexOutOfBoundsException("there is no such person");
        }
    }

    private void requireAlive(int person) {
        if (!living[person]) {
            throw new IllegalStateException("the person is gone");
        }
    }

    private void requireWitness(int witness) {
        if (!isWitness(witness)) {
            throw new IndexOutOfBoundsException("there is no such witness");
        }
    }

    private void requireMiss(int miss) {
        if (miss < 0 || miss >= missCount) {
            throw new IndexOutOfBoundsException("there is no such miss");
        }
    }

    private void requireInches(int inches) {
        if (inches < 1 || inches > MOST_INCHES) {
            throw new IllegalArgumentException("inches are not 1 to 60");
        }
    }

    private int fatePrice(int person) {
        return LEAST_PRICE + (MOST_LUCK - luck[person]) / 10;
    }

    private int findLastHeir(int person) {
        int heir = heirs[person];
        // A way of more steps than there are persons comes to somebody a second time.
        for (int step = 0; step < personCount; step++) {
            if (!isPerson(heir) || heir == person) {
                return NONE;
            }
            if (living[heir]) {
                return heir;
            }
            heir = heirs[heir];
        }
        return NONE;
    }

    /** What a witness tells, on duty or not; 0 for nothing. */
    private int tale(int witness, int inches) {
        if (isShaken(witness)) {
            return 0;
        }
        return Math.max(1, inches - (MOST_NERVE - nerve[witness]) / 2);
    }

    /** The certified inches; 0 if it is not certified. */
    private int middleTale(int inches) {
        int count = 0;
        for (int witness = 0; witness < witnessCount; witness++) {
            if (onDuty[witness] && !isShaken(witness)) {
                insertTale(count, tale(witness, inches));
                count++;
            }
        }
        if (count == 0) {
            return 0;
        }
        return tales[(count - 1) / 2];
    }

    /** Keeps the first count tales, and the new one among them, in ascending order. */
    private void insertTale(int count, int tale) {
        int place = count;
        while (place > 0 && tales[place - 1] > tale) {
            tales[place] = tales[place - 1];
            place--;
        }
        tales[place] = tale;
    }

    private boolean usesFate(int person, int certifiedInches) {
        return living[person] && fates[person] > 0
                && certifiedInches > 0 && certifiedInches <= REFUND_INCHES;
    }

    private int refundCoins(int person, int certifiedInches) {
        if (!usesFate(person, certifiedInches)) {
            return 0;
        }
        return Math.min(fundCoins, fatePrice(person) + REFUND_INCHES - certifiedInches);
    }

    private void refundFate(int person, int certifiedInches) {
        // A fate is used up even if the fund is empty.
        if (usesFate(person, certifiedInches)) {
            int coins = refundCoins(person, certifiedInches);
            fates[person]--;
            fundCoins -= coins;
            purse[person] += coins;
            refundedCoins += coins;
        }
    }

    private static int nerveLoss(int inches) {
        if (inches <= 5) {
            return 3;
        }
        return inches <= 12 ? 2 : 1;
    }

    private static int nerveGain(boolean duty) {
        return duty ? 1 : 2;
    }

    private void frightenWitnesses(int loss) {
        for (int witness = 0; witness < witnessCount; witness++) {
            if (onDuty[witness]) {
                nerve[witness] = Math.max(0, nerve[witness] - loss);
            }
        }
    }

    private void passOneNight() {
        for (int witness = 0; witness < witnessCount; witness++) {
            nerve[witness] = Math.min(MOST_NERVE, nerve[witness] + nerveGain(onDuty[witness]));
        }
        for (int person = 0; person < personCount; person++) {
            if (living[person]) {
                luck[person] = Math.min(MOST_LUCK, luck[person] + 1);
            }
        }
        nightCount++;
    }

    private int nightsToCalm(int witness) {
        int gain = nerveGain(onDuty[witness]);
        int nights = 0;
        while (nights < MOST_NERVE && nerve[witness] + nights * gain <= SHAKEN_NERVE) {
            nights++;
        }
        return nights;
    }

    private static int certificateSeal(int person, int inches) {
        int seal = sealText(7, "person ");
        seal = sealNumber(seal, person);
        seal = sealText(seal, ": ");
        if (inches == 0) {
            return sealText(seal, "not certified");
        }
        seal = sealNumber(seal, inches);
        return sealText(seal, " inches");
    }

    private static int sealText(int seal, String text) {
        for (int i = 0; i < text.length(); i++) {
            seal = seal * 31 + text.charAt(i);
        }
        return seal;
    }

    /** Seals the digits of a number of 0 to 99: no person and no inches need more. */
    private static int sealNumber(int seal, int number) {
        if (number >= 10) {
            seal = seal * 31 + '0' + number / 10;
        }
        return seal * 31 + '0' + number % 10;
    }

    private static long mix(long d, long x) {
        return d * 31 + x;
    }

    private static int asNumber(boolean so) {
        return so ? 1 : 0;
    }

    private long digestRegistry(long d) {
        d = mix(d, night());
        d = mix(d, persons());
        d = mix(d, alive());
        d = mix(d, witnesses());
        d = mix(d, shaken());
        d = mix(d, fund());
        d = mix(d, refunded());
        d = mix(d, misses());
        d = mix(d, certified());
        d = mix(d, wouldCertify(20));
        d = mix(d, missesUntilShaken(10));
        d = mix(d, nightsUntilCalm());
        d = mix(d, steadiest());
        return mix(d, luckiest());
    }

    private long digestPerson(long d, int person) {
        d = mix(d, asNumber(isAlive(person)));
        d = mix(d, luckOf(person));
        d = mix(d, purseOf(person));
        d = mix(d, fatesOf(person));
        d = mix(d, heirOf(person));
        d = mix(d, lastHeirOf(person));
        d = mix(d, missesOf(person));
        return mix(d, closestOf(person));
    }

    private long digestLatestMiss(long d) {
        int latest = missCount - 1;
        if (latest < 0) {
            return mix(mix(d, 0), 0);
        }
        d = mix(d, inchesOf(latest));
        return mix(d, sealOf(latest));
    }
}
