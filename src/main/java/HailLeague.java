/** A league of vineyards with hail cannons: see README.md. */
public final class HailLeague {
    private static final int PLACES = 30;
    private static final int MOST_VINEYARDS = 10;
    private static final int MOST_VINES = 99;
    private static final int MOST_CANNONS = 6;
    private static final int MOST_RANGE = 9;
    private static final int MOST_POWDER = 60;
    private static final int MOST_CLOUDS = 20;
    private static final int MOST_DRIFT = 3;
    private static final int MOST_HAIL = 60;
    private static final int WIND_HOURS = 6;
    private static final int MOST_WIND = 2;
    private static final int DAY = 24;

    private static final int COINS_AT_FIRST = 50;
    private static final int POWDER_FOR_A_COIN = 5;
    private static final int MOVE_COINS = 2;
    private static final int NOISE_DISTANCE = 2;
    private static final int HAIL_DROPPED = 4;
    private static final int VINES_LOST_PER_HAIL = 2;

    private static final int MOST_HOURS = 96;
    private static final int MOST_ADVISE_HOURS = 36;
    private static final int HIT_HOURS = 60;

    private static final int VINEYARD_FACTS = 7;
    private static final int CANNON_FACTS = 5;
    private static final int CLOUD_FACTS = 4;
    private static final int COUNTS = 10;
    private static final long DIGEST_START = 1201;
    private static final long DIGEST_FACTOR = 31;

    private final League now;
    // Made once and written over, so that no foresight makes new objects.
    private final League trial;

    public HailLeague() {
        now = new League();
        trial = new League();
    }

    // ---- vineyards, cannons, clouds

    public int plant(int place, int vines, boolean member, boolean insured)
            throws IllegalArgumentException, IllegalStateException {
        requireArgument(isPlace(place) && vines >= 0 && vines <= MOST_VINES);
        requireState(now.vineyards.count < MOST_VINEYARDS);
        return now.vineyards.add(place, vines, member, insured);
    }

    public int sign(int vineyard, boolean member, boolean insured) throws IndexOutOfBoundsException {
        requireIndex(vineyard, now.vineyards.count);
        return now.vineyards.enrol(vineyard, member, insured);
    }

    public int cannon(int place, int range, int powder)
            throws IllegalArgumentException, IllegalStateException {
        requireArgument(isPlace(place) && range >= 1 && range <= MOST_RANGE
                && powder >= 0 && powder <= MOST_POWDER);
        requireState(now.cannons.count < MOST_CANNONS);
        return now.cannons.add(place, range, powder);
    }

    public int load(int cannon, int powder) throws IndexOutOfBoundsException, IllegalArgumentException {
        requireIndex(cannon, now.cannons.count);
        requireArgument(powder >= 1 && powder <= MOST_POWDER);
        now.coins -= powder / POWDER_FOR_A_COIN;
        return now.cannons.addPowder(cannon, powder);
    }

    public int gather(int place, int drift, int hail)
            throws IllegalArgumentException, IllegalStateException {
        requireArgument(isPlace(place) && drift >= -MOST_DRIFT && drift <= MOST_DRIFT
                && hail >= 0 && hail <= MOST_HAIL);
        requireState(now.clouds.count < MOST_CLOUDS);
        return now.clouds.add(place, drift, hail);
    }

    public int setWind(int hour, int wind) throws IndexOutOfBoundsException, IllegalArgumentException {
        requireIndex(hour, WIND_HOURS);
        requireArgument(wind >= -MOST_WIND && wind <= MOST_WIND);
        int before = now.wind[hour];
        now.wind[hour] = wind;
        return before;
    }

    // ---- what is there

    public int vineyard(int vineyard, int what) throws IndexOutOfBoundsException {
        requireIndex(vineyard, now.vineyards.count);
        requireIndex(what, VINEYARD_FACTS);
        return now.vineyards.fact(vineyard, what);
    }

    public int about(int cannon, int what) throws IndexOutOfBoundsException {
        requireIndex(cannon, now.cannons.count);
        requireIndex(what, CANNON_FACTS);
        return now.cannons.fact(cannon, what, now.clouds);
    }

    public int cloud(int cloud, int what) throws IndexOutOfBoundsException {
        requireIndex(cloud, now.clouds.count);
        requireIndex(what, CLOUD_FACTS);
        return now.clouds.fact(cloud, what);
    }

    public int count(int what) throws IndexOutOfBoundsException {
        requireIndex(what, COUNTS);
        return now.total(what);
    }

    // ---- hours and what would be

    public int pass(int hours) throws IllegalArgumentException {
        requireArgument(hours >= 1 && hours <= MOST_HOURS);
        int before = now.vineyards.sumOfLostInAll();
        now.goBy(hours);
        return now.vineyards.sumOfLostInAll() - before;
    }

    public int hit(int vineyard) throws IndexOutOfBoundsException {
        requireIndex(vineyard, now.vineyards.count);
        trial.copyFrom(now);
        int before = trial.vineyards.lostInAll[vineyard];
        for (int hours = 1; hours <= HIT_HOURS && trial.clouds.haveHail(); hours++) {
            trial.goByOneHour();
            if (trial.vineyards.lostInAll[vineyard] > before) {
                return hours;
            }
        }
        return -1;
    }

    public int foresee(int hours, int what) throws IllegalArgumentException, IndexOutOfBoundsException {
        requireArgument(hours >= 1 && hours <= MOST_HOURS);
        requireForeseen(what);
        trial.copyFrom(now);
        trial.goBy(hours);
        return trial.total(what);
    }

    public int advise(int cannon, int hours) throws IndexOutOfBoundsException, IllegalArgumentException {
        requireIndex(cannon, now.cannons.count);
        requireArgument(hours >= 1 && hours <= MOST_ADVISE_HOURS);
        int fewest = lostWith(cannon, now.cannons.place[cannon], hours);
        int best = -1;
        for (int place = 0; place < PLACES; place++) {
            int lost = lostWith(cannon, place, hours);
            if (lost < fewest) {
                fewest = lost;
                best = place;
            }
        }
        return best;
    }

    public int move(int cannon, int place) throws IndexOutOfBoundsException, IllegalArgumentException {
        requireIndex(cannon, now.cannons.count);
        requireArgument(isPlace(place));
        int before = now.cannons.place[cannon];
        now.cannons.place[cannon] = place;
        now.coins -= MOVE_COINS;
        return before;
    }

    public double mean() {
        if (now.vineyards.count == 0) {
            return 0.0;
        }
        return (double) now.vineyards.sumOfVines() / (double) now.vineyards.count;
    }

    public long digest() {
        long d = DIGEST_START;
        for (int what = 0; what < COUNTS; what++) {
            d = d * DIGEST_FACTOR + now.total(what);
        }
        for (int hour = 0; hour < WIND_HOURS; hour++) {
            d = d * DIGEST_FACTOR + now.wind[hour];
        }
        d = digestOfVineyards(d);
        d = digestOfCannons(d);
        return digestOfClouds(d);
    }

    private long digestOfVineyards(long start) {
        long d = start;
        for (int i = 0; i < now.vineyards.count; i++) {
            for (int what = 0; what < VINEYARD_FACTS; what++) {
                d = d * DIGEST_FACTOR + now.vineyards.fact(i, what);
            }
        }
        return d;
    }

    private long digestOfCannons(long start) {
        long d = start;
        for (int i = 0; i < now.cannons.count; i++) {
            for (int what = 0; what < CANNON_FACTS; what++) {
                d = d * DIGEST_FACTOR + now.cannons.fact(i, what, now.clouds);
            }
        }
        return d;
    }

    private long digestOfClouds(long start) {
        long d = start;
        for (int i = 0; i < now.clouds.count; i++) {
            for (int what = 0; what < CLOUD_FACTS; what++) {
                d = d * DIGEST_FACTOR + now.clouds.fact(i, what);
            }
        }
        return d;
    }

    /** Answers the vines lost in all, those lost before now too, with the cannon at the place. */
    private int lostWith(int cannon, int place, int hours) {
        trial.copyFrom(now);
        trial.cannons.place[cannon] = place;
        // Only hail costs vines, so hours without any need not be tried.
        for (int i = 0; i < hours && trial.clouds.haveHail(); i++) {
            trial.goByOneHour();
        }
        return trial.vineyards.sumOfLostInAll();
    }

    private static boolean isPlace(int place) {
        return place >= 0 && place < PLACES;
    }

    private static void requireArgument(boolean fits) {
        if (!fits) {
            throw new IllegalArgumentException();
        }
    }

    private static void requireState(boolean fits) {
        if (!fits) {
            throw new IllegalStateException();
        }
    }

    private static void requireIndex(int index, int size) {
        if (index < 0 || index >= size) {
            throw new IndexOutOfBoundsException();
        }
    }

    private static void requireForeseen(int what) {
        if (what != League.COINS && what != League.VINES && what != League.LOST
                && what != League.SUITS && what != League.CLOUDS_THERE) {
            throw new IndexOutOfBoundsException();
        }
    }

    /** All that an hour changes. */
    static final class League {
        static final int COINS = 2;
        static final int VINES = 3;
        static final int LOST = 4;
        static final int SUITS = 5;
        static final int CLOUDS_THERE = 8;

        final Vineyards vineyards = new Vineyards();
        final Cannons cannons = new Cannons();
        final Clouds clouds = new Clouds();
        final int[] wind = new int[WIND_HOURS];
        int hour = 0;
        int coins = COINS_AT_FIRST;

        void copyFrom(League other) {
            vineyards.copyFrom(other.vineyards);
            cannons.copyFrom(other.cannons);
            clouds.copyFrom(other.clouds);
            System.arraycopy(other.wind, 0, wind, 0, WIND_HOURS);
            hour = other.hour;
            coins = other.coins;
        }

        void goBy(int hours) {
            for (int i = 0; i < hours; i++) {
                goByOneHour();
            }
        }

        void goByOneHour() {
            // floorMod, so that the index fits whatever the hour is.
            clouds.drive(wind[Math.floorMod(hour, WIND_HOURS)]);
            cannons.shoot(clouds, vineyards);
            clouds.dropUpon(vineyards);
            if (hour % DAY == DAY - 1) {
                coins += vineyards.closeDay();
            }
            hour++;
        }

        int total(int what) {
            switch (what) {
                case 0: return hour;
                case 1: return hour % DAY;
                case COINS: return coins;
                case VINES: return vineyards.sumOfVines();
                case LOST: return vineyards.sumOfLostInAll();
                case SUITS: return vineyards.sumOfSuits();
                case 6: return vineyards.members();
                case 7: return vineyards.insuredOnes();
                case CLOUDS_THERE: return clouds.there();
                default: return cannons.sumOfShots();
            }
        }
    }

    /** The vineyards, each an index into all arrays. */
    static final class Vineyards {
        final int[] place = new int[MOST_VINEYARDS];
        final int[] vines = new int[MOST_VINEYARDS];
        final boolean[] member = new boolean[MOST_VINEYARDS];
        final boolean[] insured = new boolean[MOST_VINEYARDS];
        final int[] lostToday = new int[MOST_VINEYARDS];
        final int[] suits = new int[MOST_VINEYARDS];
        final int[] lostInAll = new int[MOST_VINEYARDS];
        int count = 0;

        int add(int newPlace, int newVines, boolean isMember, boolean isInsured) {
            int number = count;
            place[number] = newPlace;
            vines[number] = newVines;
            member[number] = isMember;
            insured[number] = isInsured;
            count++;
            return number;
        }

        int enrol(int i, boolean isMember, boolean isInsured) {
            int before = (member[i] ? 1 : 0) + (insured[i] ? 2 : 0);
            member[i] = isMember;
            insured[i] = isInsured;
            return before;
        }

        int fact(int i, int what) {
            switch (what) {
                case 0: return place[i];
                case 1: return vines[i];
                case 2: return member[i] ? 1 : 0;
                case 3: return insured[i] ? 1 : 0;
                case 4: return lostToday[i];
                case 5: return suits[i];
                default: return lostInAll[i];
            }
        }

        void hearShot(int cannonPlace) {
            for (int i = 0; i < count; i++) {
                if (!member[i] && Math.abs(place[i] - cannonPlace) <= NOISE_DISTANCE) {
                    suits[i]++;
                }
            }
        }

        void takeHail(int hailPlace, int hail) {
            for (int i = 0; i < count; i++) {
                if (place[i] == hailPlace) {
                    int lost = Math.min(VINES_LOST_PER_HAIL * hail, vines[i]);
                    vines[i] -= lost;
                    lostToday[i] += lost;
                    lostInAll[i] += lost;
                }
            }
        }

        /** Answers by how much the coins of the league become more. */
        int closeDay() {
            int gain = 0;
            for (int i = 0; i < count; i++) {
                if (insured[i]) {
                    gain += 1 - lostToday[i] / 2;
                }
                gain -= suits[i];
                lostToday[i] = 0;
                suits[i] = 0;
                if (vines[i] >= 1 && vines[i] < MOST_VINES) {
                    vines[i]++;
                }
            }
            return gain;
        }

        int sumOfVines() {
            return sum(vines);
        }

        int sumOfLostInAll() {
            return sum(lostInAll);
        }

        int sumOfSuits() {
            return sum(suits);
        }

        int members() {
            return howManyAre(member);
        }

        int insuredOnes() {
            return howManyAre(insured);
        }

        private int sum(int[] row) {
            int sum = 0;
            for (int i = 0; i < count; i++) {
                sum += row[i];
            }
            return sum;
        }

        private int howManyAre(boolean[] row) {
            int many = 0;
            for (int i = 0; i < count; i++) {
                if (row[i]) {
                    many++;
                }
            }
            return many;
        }

        void copyFrom(Vineyards other) {
            System.arraycopy(other.place, 0, place, 0, MOST_VINEYARDS);
            System.arraycopy(other.vines, 0, vines, 0, MOST_VINEYARDS);
            System.arraycopy(other.lostToday, 0, lostToday, 0, MOST_VINEYARDS);
            System.arraycopy(other.suits, 0, suits, 0, MOST_VINEYARDS);
            System.arraycopy(other.lostInAll, 0, lostInAll, 0, MOST_VINEYARDS);
            // LANGUAGE.md (rule 4) can be read so that arraycopy is for numbers alone.
            for (int i = 0; i < MOST_VINEYARDS; i++) {
                member[i] = other.member[i];
                insured[i] = other.insured[i];
            }
            count = other.count;
        }
    }

    /** The cannons, each an index into all arrays. */
    static final class Cannons {
        final int[] place = new int[MOST_CANNONS];
        final int[] range = new int[MOST_CANNONS];
        final int[] powder = new int[MOST_CANNONS];
        final int[] shots = new int[MOST_CANNONS];
        int count = 0;

        int add(int newPlace, int newRange, int newPowder) {
            int number = count;
            place[number] = newPlace;
            range[number] = newRange;
            powder[number] = newPowder;
            count++;
            return number;
        }

        int addPowder(int i, int more) {
            powder[i] = Math.min(powder[i] + more, MOST_POWDER);
            return powder[i];
        }

        int fact(int i, int what, Clouds clouds) {
            switch (what) {
                case 0: return place[i];
                case 1: return range[i];
                case 2: return powder[i];
                case 3: return shots[i];
                default: return target(i, clouds);
            }
        }

        /** Answers the cloud at which the cannon shoots, or -1. */
        private int target(int i, Clouds clouds) {
            return powder[i] > 0 ? clouds.nearest(place[i], range[i]) : -1;
        }

        void shoot(Clouds clouds, Vineyards vineyards) {
            for (int i = 0; i < count; i++) {
                int target = target(i, clouds);
                if (target >= 0) {
                    powder[i]--;
                    shots[i]++;
                    clouds.takeShot(target, place[i], range[i]);
                    vineyards.hearShot(place[i]);
                }
            }
        }

        int sumOfShots() {
            int sum = 0;
            for (int i = 0; i < count; i++) {
                sum += shots[i];
            }
            return sum;
        }

        void copyFrom(Cannons other) {
            System.arraycopy(other.place, 0, place, 0, MOST_CANNONS);
            System.arraycopy(other.range, 0, range, 0, MOST_CANNONS);
            System.arraycopy(other.powder, 0, powder, 0, MOST_CANNONS);
            System.arraycopy(other.shots, 0, shots, 0, MOST_CANNONS);
            count = other.count;
        }
    }

    /** The clouds, each an index into all arrays. */
    static final class Clouds {
        final int[] place = new int[MOST_CLOUDS];
        final int[] drift = new int[MOST_CLOUDS];
        final int[] hail = new int[MOST_CLOUDS];
        final boolean[] gone = new boolean[MOST_CLOUDS];
        int count = 0;

        int add(int newPlace, int newDrift, int newHail) {
            int number = count;
            place[number] = newPlace;
            drift[number] = newDrift;
            hail[number] = newHail;
            count++;
            return number;
        }

        int fact(int i, int what) {
            switch (what) {
                case 0: return place[i];
                case 1: return drift[i];
                case 2: return hail[i];
                default: return gone[i] ? 1 : 0;
            }
        }

        void drive(int wind) {
            for (int i = 0; i < count; i++) {
                if (!gone[i]) {
                    place[i] += drift[i] + wind;
                    gone[i] = !isPlace(place[i]);
                }
            }
        }

        /** Answers the nearest cloud with hail in range, of several the first; -1 for none. */
        int nearest(int from, int range) {
            int best = -1;
            int bestDistance = range + 1;
            for (int i = 0; i < count; i++) {
                int distance = Math.abs(place[i] - from);
                if (!gone[i] && hail[i] > 0 && distance < bestDistance) {
                    best = i;
                    bestDistance = distance;
                }
            }
            return best;
        }

        void takeShot(int i, int from, int range) {
            int distance = Math.abs(place[i] - from);
            hail[i] = Math.max(hail[i] - (range + 1 - distance), 0);
        }

        void dropUpon(Vineyards vineyards) {
            for (int i = 0; i < count; i++) {
                if (!gone[i] && hail[i] > 0) {
                    int dropped = Math.min(hail[i], HAIL_DROPPED);
                    hail[i] -= dropped;
                    vineyards.takeHail(place[i], dropped);
                }
            }
        }

        boolean haveHail() {
            for (int i = 0; i < count; i++) {
                if (!gone[i] && hail[i] > 0) {
                    return true;
                }
            }
            return false;
        }

        int there() {
            int many = 0;
            for (int i = 0; i < count; i++) {
                if (!gone[i]) {
                    many++;
                }
            }
            return many;
        }

        void copyFrom(Clouds other) {
            System.arraycopy(other.place, 0, place, 0, MOST_CLOUDS);
            System.arraycopy(other.drift, 0, drift, 0, MOST_CLOUDS);
            System.arraycopy(other.hail, 0, hail, 0, MOST_CLOUDS);
            for (int i = 0; i < MOST_CLOUDS; i++) {
                gone[i] = other.gone[i];
            }
            count = other.count;
        }
    }
}
