/**
 * A mountain post: mules carry letters relay by relay between stations, and signal fires turn recalled letters back.
 */
public final class MountainPost {
    private static final int MOST_STATIONS = 10;
    private static final int MOST_ROADS = 15;
    private static final int MOST_MULES = 12;
    private static final int MOST_LETTERS = 60;
    private static final int GREATEST_HEIGHT = 4000;
    private static final int GREATEST_LENGTH = 20;
    private static final int GREATEST_LOAD = 6;
    private static final int GREATEST_URGENCY = 9;
    private static final int CLIMB_IN_AN_HOUR = 200;
    private static final int MOST_HOURS_TO_PASS = 100;
    private static final int MOST_HOURS_AHEAD = 300;
    private static final int MOST_HOURS_TO_ADVISE = 50;

    private static final int STATION_NUMBERS = 5;
    private static final int ROAD_NUMBERS = 6;
    private static final int MULE_NUMBERS = 6;
    private static final int LETTER_NUMBERS = 11;
    private static final int COUNT_NUMBERS = 10;
    private static final long DIGEST_START = 547;
    private static final long DIGEST_FACTOR = 31;

    private static final int NONE = -1;
    /** Hours that no way can have: it stays greater than any sum of roads, and twice of it is still an int. */
    private static final int NO_WAY = 1000000;

    private static final int WAITS = 0;
    private static final int WITH_MULE = 1;
    private static final int COME = 2;
    private static final int BACK = 3;

    private final Land land;
    private final Traffic traffic;
    /** Looking ahead happens here: it is made once, so that no call makes rows of its own. */
    private final Traffic trial;

    public MountainPost() {
        Land made = new Land();
        land = made;
        traffic = new Traffic(made);
        trial = new Traffic(made);
    }

    // ---- stations, roads, mules

    public int addStation(int height) throws IllegalArgumentException, IllegalStateException {
        if (!isWithin(height, 0, GREATEST_HEIGHT)) {
            throw new IllegalArgumentException("a height is 0 to 4000");
        }
        if (land.stationCount >= MOST_STATIONS) {
            throw new IllegalStateException("there are 10 stations");
        }
        return land.putStation(height);
    }

    public int setSight(int a, int b, boolean isSeen) throws IndexOutOfBoundsException, IllegalArgumentException {
        if (!isStation(a) || !isStation(b)) {
            throw new IndexOutOfBoundsException("no such station");
        }
        if (a == b) {
            throw new IllegalArgumentException("both stations are the same");
        }
        land.putSight(a, b, isSeen);
        land.putSight(b, a, isSeen);
        return Integer.bitCount(land.sights.get(a));
    }

    public int setFog(int station, boolean isFoggy) throws IndexOutOfBoundsException {
        if (!isStation(station)) {
            throw new IndexOutOfBoundsException("no such station");
        }
        land.fog = isFoggy ? with(land.fog, station) : without(land.fog, station);
        return Integer.bitCount(land.fog);
    }

    public int build(int a, int b, int length)
            throws IndexOutOfBoundsException, IllegalArgumentException, IllegalStateException {
        if (!isStation(a) || !isStation(b)) {
            throw new IndexOutOfBoundsException("no such station");
        }
        if (a == b || !isWithin(length, 1, GREATEST_LENGTH)) {
            throw new IllegalArgumentException("both stations are the same, or the length is not 1 to 20");
        }
        if (land.roadCount >= MOST_ROADS) {
            throw new IllegalStateException("there are 15 roads");
        }
        return land.putRoad(a, b, length);
    }

    public int addMule(int road, int load, boolean isAtB)
            throws IndexOutOfBoundsException, IllegalArgumentException, IllegalStateException {
        if (!isRoad(road)) {
            throw new IndexOutOfBoundsException("no such road");
        }
        if (!isWithin(load, 1, GREATEST_LOAD)) {
            throw new IllegalArgumentException("a load is 1 to 6");
        }
        if (traffic.mules.number >= MOST_MULES) {
            throw new IllegalStateException("there are 12 mules");
        }
        return traffic.putMule(road, load, isAtB ? land.endsB.get(road) : land.endsA.get(road));
    }

    public int station(int station, int what) throws IndexOutOfBoundsException {
        if (!isStation(station) || !isWithin(what, 0, STATION_NUMBERS - 1)) {
            throw new IndexOutOfBoundsException("no such station, or no such number of it");
        }
        return tellStation(station, what);
    }

    public int road(int road, int what) throws IndexOutOfBoundsException {
        if (!isRoad(road) || !isWithin(what, 0, ROAD_NUMBERS - 1)) {
            throw new IndexOutOfBoundsException("no such road, or no such number of it");
        }
        return tellRoad(road, what);
    }

    public int mule(int mule, int what) throws IndexOutOfBoundsException {
        if (!isWithin(mule, 0, traffic.mules.number - 1) || !isWithin(what, 0, MULE_NUMBERS - 1)) {
            throw new IndexOutOfBoundsException("no such mule, or no such number of it");
        }
        return tellMule(mule, what);
    }

    // ---- letters

    public int post(int from, int to, int urgency)
            throws IndexOutOfBoundsException, IllegalArgumentException, IllegalStateException {
        if (!isStation(from) || !isStation(to)) {
            throw new IndexOutOfBoundsException("no such station");
        }
        if (from == to || !isWithin(urgency, 0, GREATEST_URGENCY)) {
            throw new IllegalArgumentException("both stations are the same, or the urgency is not 0 to 9");
        }
        if (traffic.letters.number >= MOST_LETTERS) {
            throw new IllegalStateException("there are 60 letters");
        }
        return traffic.letters.put(from, to, urgency, traffic.hour);
    }

    public int recall(int letter) throws IndexOutOfBoundsException, IllegalStateException {
        if (!isLetter(letter)) {
            throw new IndexOutOfBoundsException("no such letter");
        }
        if (traffic.letters.isRecalled(letter) || traffic.letters.hasEnded(letter)) {
            throw new IllegalStateException("the letter was recalled, has come or is back");
        }
        int from = traffic.letters.froms.get(letter);
        traffic.letters.knowers.set(letter, with(0, from));
        return Integer.bitCount(land.everLitFrom(from)) - 1;
    }

    public int letter(int letter, int what) throws IndexOutOfBoundsException {
        if (!isLetter(letter) || !isWithin(what, 0, LETTER_NUMBERS - 1)) {
            throw new IndexOutOfBoundsException("no such letter, or no such number of it");
        }
        return tellLetter(letter, what);
    }

    // ---- hours

    public int pass(int hours) throws IllegalArgumentException {
        if (!isWithin(hours, 1, MOST_HOURS_TO_PASS)) {
            throw new IllegalArgumentException("hours are 1 to 100");
        }
        return traffic.letHoursGoBy(hours);
    }

    public int count(int what) throws IndexOutOfBoundsException {
        if (!isWithin(what, 0, COUNT_NUMBERS - 1)) {
            throw new IndexOutOfBoundsException("no such count");
        }
        return tellCount(what);
    }

    // ---- ways and fires

    public int way(int from, int to, int what) throws IndexOutOfBoundsException {
        if (!isStation(from) || !isStation(to) || !isWithin(what, 0, 1)) {
            throw new IndexOutOfBoundsException("no such station, or no such number of a way");
        }
        if (what == 1) {
            return traffic.ways.firstRoad(from, to);
        }
        int hours = traffic.ways.hoursOf(from, to);
        return hours < NO_WAY ? hours : NONE;
    }

    public int fire(int from, int to) throws IndexOutOfBoundsException {
        if (!isStation(from) || !isStation(to)) {
            throw new IndexOutOfBoundsException("no such station");
        }
        return land.hoursOfFire(from, to);
    }

    // ---- looking ahead

    public int foresee(int letter, int hours) throws IndexOutOfBoundsException, IllegalArgumentException {
        if (!isLetter(letter)) {
            throw new IndexOutOfBoundsException("no such letter");
        }
        if (!isWithin(hours, 0, MOST_HOURS_AHEAD)) {
            throw new IllegalArgumentException("hours are 0 to 300");
        }
        trial.copyFrom(traffic);
        trial.letHoursGoBy(hours);
        return trial.letters.states.get(letter);
    }

    public int arrives(int letter) throws IndexOutOfBoundsException {
        if (!isLetter(letter)) {
            throw new IndexOutOfBoundsException("no such letter");
        }
        trial.copyFrom(traffic);
        trial.letHoursGoBy(MOST_HOURS_AHEAD);
        return trial.letters.hoursEnded.get(letter);
    }

    public int advise(int hours) throws IllegalArgumentException, IllegalStateException {
        if (!isWithin(hours, 1, MOST_HOURS_TO_ADVISE)) {
            throw new IllegalArgumentException("hours are 1 to 50");
        }
        if (traffic.mules.number >= MOST_MULES) {
            throw new IllegalStateException("there are 12 mules");
        }
        trial.copyFrom(traffic);
        int most = trial.letHoursGoBy(hours);
        int best = NONE;
        for (int road = 0; road < land.roadCount; road++) {
            trial.copyFrom(traffic);
            trial.putMule(road, GREATEST_LOAD, land.endsA.get(road));
            int come = trial.letHoursGoBy(hours);
            if (come > most) {
                most = come;
                best = road;
            }
        }
        return best;
    }

    public double mean() {
        int come = 0;
        int hours = 0;
        Letters letters = traffic.letters;
        for (int l = 0; l < letters.number; l++) {
            if (letters.states.get(l) == COME) {
                come++;
                hours += letters.hoursEnded.get(l) - letters.hoursPosted.get(l);
            }
        }
        return come > 0 ? (double) hours / (double) come : 0.0;
    }

    public long digest() {
        long d = DIGEST_START;
        for (int what = 0; what < COUNT_NUMBERS; what++) {
            d = d * DIGEST_FACTOR + tellCount(what);
        }
        for (int i = 0; i < land.stationCount * STATION_NUMBERS; i++) {
            d = d * DIGEST_FACTOR + tellStation(i / STATION_NUMBERS, i % STATION_NUMBERS);
        }
        for (int i = 0; i < land.roadCount * ROAD_NUMBERS; i++) {
            d = d * DIGEST_FACTOR + tellRoad(i / ROAD_NUMBERS, i % ROAD_NUMBERS);
        }
        for (int i = 0; i < traffic.mules.number * MULE_NUMBERS; i++) {
            d = d * DIGEST_FACTOR + tellMule(i / MULE_NUMBERS, i % MULE_NUMBERS);
        }
        for (int i = 0; i < traffic.letters.number * LETTER_NUMBERS; i++) {
            d = d * DIGEST_FACTOR + tellLetter(i / LETTER_NUMBERS, i % LETTER_NUMBERS);
        }
        return d;
    }

    // ---- what there is

    private boolean isStation(int station) {
        return isWithin(station, 0, land.stationCount - 1);
    }

    private boolean isRoad(int road) {
        return isWithin(road, 0, land.roadCount - 1);
    }

    private boolean isLetter(int letter) {
        return isWithin(letter, 0, traffic.letters.number - 1);
    }

    private static boolean isWithin(int value, int least, int greatest) {
        return value >= least && value <= greatest;
    }

    // ---- what the calls tell

    private int tellStation(int station, int what) {
        switch (what) {
            case 0:
                return land.heights.get(station);
            case 1:
                return traffic.letters.waitingAt(station);
            case 2:
                return traffic.mules.standingAt(station);
            case 3:
                return Integer.bitCount(land.sights.get(station));
            default:
                return has(land.fog, station) ? 1 : 0;
        }
    }

    private int tellRoad(int road, int what) {
        int a = land.endsA.get(road);
        int b = land.endsB.get(road);
        switch (what) {
            case 0:
                return a;
            case 1:
                return b;
            case 2:
                return land.hoursBetween(road, a, b);
            case 3:
                return land.hoursBetween(road, b, a);
            case 4:
                return traffic.mules.ofRoad(road);
            default:
                return traffic.mules.underWayOn(road);
        }
    }

    private int tellMule(int mule, int what) {
        Mules mules = traffic.mules;
        switch (what) {
            case 0:
                return mules.roads.get(mule);
            case 1:
                return mules.loads.get(mule);
            case 2:
                return mules.places.get(mule);
            case 3:
                return mules.hoursLeft.get(mule);
            case 4:
                return traffic.letters.carriedBy(mule);
            default:
                return mules.hoursWalked.get(mule);
        }
    }

    private int tellLetter(int letter, int what) {
        Letters letters = traffic.letters;
        switch (what) {
            case 0:
                return letters.froms.get(letter);
            case 1:
                return letters.tos.get(letter);
            case 2:
                return letters.urgencies.get(letter);
            case 3:
                return letters.states.get(letter);
            case 4:
                return letters.places.get(letter);
            case 5:
                return letters.carriers.get(letter);
            case 6:
                return letters.isRecalled(letter) ? 1 : 0;
            case 7:
                return letters.turned.get(letter);
            case 8:
                return letters.hoursPosted.get(letter);
            case 9:
                return letters.hoursEnded.get(letter);
            default:
                return Integer.bitCount(letters.knowers.get(letter));
        }
    }

    private int tellCount(int what) {
        switch (what) {
            case 0:
                return traffic.hour;
            case 1:
                return land.stationCount;
            case 2:
                return land.roadCount;
            case 3:
                return traffic.mules.number;
            case 4:
                return traffic.letters.number;
            case 5:
                return traffic.letters.inState(WAITS);
            case 6:
                return traffic.letters.inState(WITH_MULE);
            case 7:
                return traffic.letters.inState(COME);
            case 8:
                return traffic.letters.inState(BACK);
            default:
                return traffic.crosses;
        }
    }

    // ---- sets of stations or of roads, a bit for each: fifteen fit into an int

    private static boolean has(int set, int number) {
        return (set >> number & 1) == 1;
    }

    private static int with(int set, int number) {
        return set | 1 << number;
    }

    private static int without(int set, int number) {
        return set & ~(1 << number);
    }

    /** Numbers by an index. An index outside tells 0 and keeps nothing, so that no use of it can fail. */
    private static final class Row {
        private final int[] cells;

        Row(int length) {
            cells = new int[Math.max(0, length)];
        }

        int get(int index) {
            return index >= 0 && index < cells.length ? cells[index] : 0;
        }

        void set(int index, int value) {
            if (index >= 0 && index < cells.length) {
                cells[index] = value;
            }
        }

        void copyFrom(Row other) {
            System.arraycopy(other.cells, 0, cells, 0, Math.min(cells.length, other.cells.length));
        }
    }

    /** Stations with their heights, sights and fog, and roads: what no hour changes. */
    private static final class Land {
        private int stationCount;
        private final Row heights = new Row(MOST_STATIONS);
        /** For each station, the set of those that it sees. */
        private final Row sights = new Row(MOST_STATIONS);
        /** The set of stations that have fog. */
        private int fog;

        private int roadCount;
        private final Row endsA = new Row(MOST_ROADS);
        private final Row endsB = new Row(MOST_ROADS);
        private final Row lengths = new Row(MOST_ROADS);

        int putStation(int height) {
            heights.set(stationCount, height);
            stationCount++;
            return stationCount - 1;
        }

        void putSight(int viewer, int seen, boolean isSeen) {
            int sight = sights.get(viewer);
            sights.set(viewer, isSeen ? with(sight, seen) : without(sight, seen));
        }

        int putRoad(int a, int b, int length) {
            endsA.set(roadCount, a);
            endsB.set(roadCount, b);
            lengths.set(roadCount, length);
            roadCount++;
            return roadCount - 1;
        }

        int otherEnd(int road, int end) {
            int a = endsA.get(road);
            return end == a ? endsB.get(road) : a;
        }

        int hoursBetween(int road, int here, int there) {
            int climb = Math.max(0, heights.get(there) - heights.get(here));
            return lengths.get(road) + climb / CLIMB_IN_AN_HOUR;
        }

        /** The stations that know of a fire an hour after these knew. */
        int litNext(int known) {
            int lit = known;
            int senders = known & ~fog;
            for (int s = 0; s < stationCount; s++) {
                if (has(senders, s)) {
                    lit |= sights.get(s) & ~fog;
                }
            }
            return lit;
        }

        int everLitFrom(int station) {
            int lit = with(0, station);
            for (int h = 0; h < stationCount; h++) {
                lit = litNext(lit);
            }
            return lit;
        }

        int hoursOfFire(int from, int to) {
            int lit = with(0, from);
            for (int h = 0; h < stationCount; h++) {
                if (has(lit, to)) {
                    return h;
                }
                lit = litNext(lit);
            }
            return NONE;
        }
    }

    /** For each two stations the fewest hours from the one to the other, and the first road. */
    private static final class Ways {
        private final Row hours = new Row(MOST_STATIONS * MOST_STATIONS);
        private final Row firsts = new Row(MOST_STATIONS * MOST_STATIONS);

        Ways() {
            for (int from = 0; from < MOST_STATIONS; from++) {
                for (int to = 0; to < MOST_STATIONS; to++) {
                    hours.set(from * MOST_STATIONS + to, from == to ? 0 : NO_WAY);
                    firsts.set(from * MOST_STATIONS + to, NONE);
                }
            }
        }

        int hoursOf(int from, int to) {
            return hours.get(from * MOST_STATIONS + to);
        }

        int firstRoad(int from, int to) {
            return firsts.get(from * MOST_STATIONS + to);
        }

        /** Finds all ways anew. Roads never go, and mules neither: what was found before can only become shorter. */
        void find(Land land, Mules mules) {
            for (int road = 0; road < land.roadCount; road++) {
                if (mules.ofRoad(road) > 0) {
                    int a = land.endsA.get(road);
                    int b = land.endsB.get(road);
                    shorten(a, b, land.hoursBetween(road, a, b));
                    shorten(b, a, land.hoursBetween(road, b, a));
                }
            }
            joinWays(land.stationCount);
            // From the greatest number down, so that of several first roads the smallest one stays.
            for (int road = land.roadCount - 1; road >= 0; road--) {
                if (mules.ofRoad(road) > 0) {
                    beginWith(land, road, land.endsA.get(road));
                    beginWith(land, road, land.endsB.get(road));
                }
            }
        }

        private void joinWays(int stationCount) {
            for (int via = 0; via < stationCount; via++) {
                for (int from = 0; from < stationCount; from++) {
                    for (int to = 0; to < stationCount; to++) {
                        shorten(from, to, hoursOf(from, via) + hoursOf(via, to));
                    }
                }
            }
        }

        private void shorten(int from, int to, int sum) {
            if (sum < hoursOf(from, to)) {
                hours.set(from * MOST_STATIONS + to, sum);
            }
        }

        private void beginWith(Land land, int road, int from) {
            int next = land.otherEnd(road, from);
            int step = land.hoursBetween(road, from, next);
            for (int to = 0; to < land.stationCount; to++) {
                if (step + hoursOf(next, to) == hoursOf(from, to)) {
                    firsts.set(from * MOST_STATIONS + to, road);
                }
            }
        }

        void copyFrom(Ways other) {
            hours.copyFrom(other.hours);
            firsts.copyFrom(other.firsts);
        }
    }

    private static final class Mules {
        private int number;
        private final Row roads = new Row(MOST_MULES);
        private final Row loads = new Row(MOST_MULES);
        /** The station where the mule is, or to which it goes. */
        private final Row places = new Row(MOST_MULES);
        private final Row hoursLeft = new Row(MOST_MULES);
        private final Row hoursWalked = new Row(MOST_MULES);

        int put(int road, int load, int place) {
            roads.set(number, road);
            loads.set(number, load);
            places.set(number, place);
            hoursLeft.set(number, 0);
            hoursWalked.set(number, 0);
            number++;
            return number - 1;
        }

        boolean isUnderWay(int mule) {
            return hoursLeft.get(mule) > 0;
        }

        boolean areOpposed(int one, int other) {
            return roads.get(one) == roads.get(other) && places.get(one) != places.get(other);
        }

        int standingAt(int station) {
            int standing = 0;
            for (int m = 0; m < number; m++) {
                if (places.get(m) == station && !isUnderWay(m)) {
                    standing++;
                }
            }
            return standing;
        }

        int ofRoad(int road) {
            int mules = 0;
            for (int m = 0; m < number; m++) {
                if (roads.get(m) == road) {
                    mules++;
                }
            }
            return mules;
        }

        int underWayOn(int road) {
            int mules = 0;
            for (int m = 0; m < number; m++) {
                if (roads.get(m) == road && isUnderWay(m)) {
                    mules++;
                }
            }
            return mules;
        }

        void copyFrom(Mules other) {
            number = other.number;
            roads.copyFrom(other.roads);
            loads.copyFrom(other.loads);
            places.copyFrom(other.places);
            hoursLeft.copyFrom(other.hoursLeft);
            hoursWalked.copyFrom(other.hoursWalked);
        }
    }

    private static final class Letters {
        private int number;
        private final Row froms = new Row(MOST_LETTERS);
        private final Row tos = new Row(MOST_LETTERS);
        private final Row urgencies = new Row(MOST_LETTERS);
        private final Row states = new Row(MOST_LETTERS);
        private final Row places = new Row(MOST_LETTERS);
        private final Row carriers = new Row(MOST_LETTERS);
        /** For each letter, the set of stations that know of its recall: none, if it is not recalled. */
        private final Row knowers = new Row(MOST_LETTERS);
        private final Row turned = new Row(MOST_LETTERS);
        private final Row hoursPosted = new Row(MOST_LETTERS);
        private final Row hoursEnded = new Row(MOST_LETTERS);
        /** The letters in the order in which mules take them: it never changes, so it is kept and not looked for. */
        private final Row order = new Row(MOST_LETTERS);

        int put(int from, int to, int urgency, int hour) {
            froms.set(number, from);
            tos.set(number, to);
            urgencies.set(number, urgency);
            states.set(number, WAITS);
            places.set(number, from);
            carriers.set(number, NONE);
            knowers.set(number, 0);
            turned.set(number, 0);
            hoursPosted.set(number, hour);
            hoursEnded.set(number, NONE);
            putInOrder(number, urgency);
            number++;
            return number - 1;
        }

        private void putInOrder(int letter, int urgency) {
            int rank = letter;
            while (rank > 0 && urgencies.get(order.get(rank - 1)) < urgency) {
                order.set(rank, order.get(rank - 1));
                rank--;
            }
            order.set(rank, letter);
        }

        boolean isRecalled(int letter) {
            return knowers.get(letter) != 0;
        }

        boolean hasEnded(int letter) {
            return hoursEnded.get(letter) != NONE;
        }

        boolean isWith(int letter, int mule) {
            return states.get(letter) == WITH_MULE && carriers.get(letter) == mule;
        }

        int goal(int letter) {
            return turned.get(letter) == 1 ? froms.get(letter) : tos.get(letter);
        }

        boolean areAnswers(int one, int other) {
            return froms.get(one) == tos.get(other) && froms.get(other) == tos.get(one);
        }

        void handTo(int letter, int mule) {
            states.set(letter, WITH_MULE);
            places.set(letter, NONE);
            carriers.set(letter, mule);
        }

        /** Lays a letter down at a station, where it has come, is back, or waits. */
        void layDown(int letter, int station, int hour) {
            places.set(letter, station);
            carriers.set(letter, NONE);
            if (station == goal(letter)) {
                states.set(letter, turned.get(letter) == 1 ? BACK : COME);
                hoursEnded.set(letter, hour);
            } else {
                states.set(letter, WAITS);
            }
        }

        void turn(int letter, int hour) {
            turned.set(letter, 1);
            layDown(letter, places.get(letter), hour);
        }

        int waitingAt(int station) {
            int waiting = 0;
            for (int l = 0; l < number; l++) {
                if (states.get(l) == WAITS && places.get(l) == station) {
                    waiting++;
                }
            }
            return waiting;
        }

        int carriedBy(int mule) {
            int carried = 0;
            for (int l = 0; l < number; l++) {
                if (isWith(l, mule)) {
                    carried++;
                }
            }
            return carried;
        }

        int inState(int state) {
            int letters = 0;
            for (int l = 0; l < number; l++) {
                if (states.get(l) == state) {
                    letters++;
                }
            }
            return letters;
        }

        void copyFrom(Letters other) {
            number = other.number;
            froms.copyFrom(other.froms);
            tos.copyFrom(other.tos);
            urgencies.copyFrom(other.urgencies);
            states.copyFrom(other.states);
            places.copyFrom(other.places);
            carriers.copyFrom(other.carriers);
            knowers.copyFrom(other.knowers);
            turned.copyFrom(other.turned);
            hoursPosted.copyFrom(other.hoursPosted);
            hoursEnded.copyFrom(other.hoursEnded);
            order.copyFrom(other.order);
        }
    }

    /** Mules and letters in a land, and how hours go by for them. */
    private static final class Traffic {
        private final Land land;
        private final Ways ways = new Ways();
        private final Mules mules = new Mules();
        private final Letters letters = new Letters();
        /** For each letter the road by which it goes on, if it waits: found once an hour, as all mules ask for it. */
        private final Row nextRoads = new Row(MOST_LETTERS);
        private int hour;
        private int crosses;

        Traffic(Land land) {
            this.land = land;
        }

        int putMule(int road, int load, int place) {
            int mule = mules.put(road, load, place);
            // Only the first mule of a road makes it count.
            if (mules.ofRoad(road) == 1) {
                ways.find(land, mules);
            }
            return mule;
        }

        /** Tells how many letters have come in these hours. */
        int letHoursGoBy(int hours) {
            int before = letters.inState(COME);
            boolean isStirring = true;
            for (int h = 0; h < hours; h++) {
                // Behind an hour in which nothing changes all is as it was, and so it stays in the next ones.
                if (isStirring) {
                    boolean haveMulesMoved = bringMules();
                    boolean haveFiresChanged = spreadFires();
                    boolean haveMulesSetOut = sendMules();
                    isStirring = haveMulesMoved || haveFiresChanged || haveMulesSetOut;
                }
                hour++;
            }
            return letters.inState(COME) - before;
        }

        private boolean bringMules() {
            boolean haveMoved = false;
            for (int m = 0; m < mules.number; m++) {
                if (mules.isUnderWay(m)) {
                    haveMoved = true;
                    mules.hoursLeft.set(m, mules.hoursLeft.get(m) - 1);
                    mules.hoursWalked.set(m, mules.hoursWalked.get(m) + 1);
                    if (!mules.isUnderWay(m)) {
                        unload(m);
                    }
                }
            }
            return haveMoved;
        }

        private void unload(int mule) {
            for (int l = 0; l < letters.number; l++) {
                if (letters.isWith(l, mule)) {
                    letters.layDown(l, mules.places.get(mule), hour);
                }
            }
        }

        private boolean spreadFires() {
            boolean haveChanged = false;
            for (int l = 0; l < letters.number; l++) {
                if (letters.isRecalled(l)) {
                    int known = letters.knowers.get(l);
                    int lit = land.litNext(known);
                    boolean isMet = letters.states.get(l) == WAITS && letters.turned.get(l) == 0
                            && has(lit, letters.places.get(l));
                    letters.knowers.set(l, lit);
                    if (isMet) {
                        letters.turn(l, hour);
                    }
                    haveChanged = haveChanged || isMet || lit != known;
                }
            }
            return haveChanged;
        }

        private boolean sendMules() {
            boolean haveSetOut = false;
            int wanted = findNextRoads();
            for (int m = 0; m < mules.number; m++) {
                if (!mules.isUnderWay(m) && has(wanted, mules.roads.get(m)) && loadOrHearCall(m)) {
                    setOut(m);
                    haveSetOut = true;
                }
            }
            return haveSetOut;
        }

        /** Finds the next road of each letter that waits, and tells the set of these roads. */
        private int findNextRoads() {
            int wanted = 0;
            for (int l = 0; l < letters.number; l++) {
                int road = letters.states.get(l) == WAITS ? firstRoadOf(l) : NONE;
                nextRoads.set(l, road);
                wanted = road == NONE ? wanted : with(wanted, road);
            }
            return wanted;
        }

        /** Gives a mule its letters; tells whether it has one, or one waits for it at the other end. */
        private boolean loadOrHearCall(int mule) {
            int here = mules.places.get(mule);
            int road = mules.roads.get(mule);
            int room = mules.loads.get(mule);
            boolean hasReason = false;
            for (int i = 0; i < letters.number; i++) {
                int l = letters.order.get(i);
                // A letter that goes by this road waits at one of its two ends: here, or at the other one.
                if (nextRoads.get(l) == road) {
                    hasReason = true;
                    if (letters.places.get(l) == here && room > 0) {
                        letters.handTo(l, mule);
                        nextRoads.set(l, NONE);
                        room--;
                    }
                }
            }
            return hasReason;
        }

        private int firstRoadOf(int letter) {
            return ways.firstRoad(letters.places.get(letter), letters.goal(letter));
        }

        private void setOut(int mule) {
            int road = mules.roads.get(mule);
            int here = mules.places.get(mule);
            int there = land.otherEnd(road, here);
            mules.places.set(mule, there);
            mules.hoursLeft.set(mule, land.hoursBetween(road, here, there));
            // Only where it is not alone can letters cross.
            if (mules.underWayOn(road) > 1) {
                crosses += crossesOf(mule);
            }
        }

        private int crossesOf(int mule) {
            int met = 0;
            for (int l = 0; l < letters.number; l++) {
                if (letters.isWith(l, mule)) {
                    for (int k = 0; k < letters.number; k++) {
                        if (letters.states.get(k) == WITH_MULE && letters.areAnswers(k, l)
                                && mules.areOpposed(letters.carriers.get(k), mule)) {
                            met++;
                        }
                    }
                }
            }
            return met;
        }

        void copyFrom(Traffic other) {
            ways.copyFrom(other.ways);
            mules.copyFrom(other.mules);
            letters.copyFrom(other.letters);
            hour = other.hour;
            crosses = other.crosses;
        }
    }
}
