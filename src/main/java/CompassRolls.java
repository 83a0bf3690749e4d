import java.util.Arrays;

/**
 * A directory of streets, its emergency calls and its parcel lockers.
 * The document shared/DOC.md says what every method promises.
 */
public final class CompassRolls {
    public static final int NONE = -1;
    public static final int DOUBT = -2;
    public static final int WAITING = 0, SENT = 1, DONE = 2, IN_DOUBT = 3, LOST = 4;
    public static final int POSTED = 0, HELD = 1, TAKEN = 2, RETURNED = 3;

    private static final int MOST_PLACES = 12;
    private static final int MOST_WAYS = 24;
    private static final int LONGEST_WAY = 60;
    private static final int MOST_STREETS = 12;
    private static final int MOST_SPANS = 4;
    private static final int LAST_NUMBER = 999;
    private static final int NAMES = 30;
    private static final int MOST_NAMINGS = 100;
    private static final int MOST_CARS = 6;
    private static final int MOST_CALLS = 40;
    private static final int MINUTES_THERE = 10;
    private static final int MOST_LOCKERS = 6;
    private static final int MOST_COMPARTMENTS = 9;
    private static final int MOST_PARCELS = 40;
    private static final int SIZES = 3;
    private static final int DAY = 1440;
    private static final int DAYS_HELD = 3;
    private static final int LAST_MINUTE = 100000;
    private static final int LONGEST_PASS = 3000;

    private final Places places = new Places();
    private final Directory directory = new Directory();
    private final Rescue rescue = new Rescue();
    private final Depot depot = new Depot();
    private int now;

    public CompassRolls() {
        now = 0;
    }

    // ---- places, streets, names

    public int place() throws IllegalStateException {
        if (places.count >= MOST_PLACES) {
            throw new IllegalStateException("there are 12 places");
        }
        return places.add();
    }

    public int join(int place, int other, int minutes)
            throws IndexOutOfBoundsException, IllegalArgumentException, IllegalStateException {
        checkPlace(place);
        checkPlace(other);
        if (place == other) {
            throw new IllegalArgumentException("both places are the same");
        }
        if (minutes < 1 || minutes > LONGEST_WAY) {
            throw new IllegalArgumentException("minutes is out of range");
        }
        if (places.ways >= MOST_WAYS) {
            throw new IllegalStateException("there are 24 ways");
        }
        return places.connect(place, other, minutes);
    }

    public int street() throws IllegalStateException {
        if (directory.streets >= MOST_STREETS) {
            throw new IllegalStateException("there are 12 streets");
        }
        return directory.addStreet();
    }

    public int span(int street, int from, int to, int place)
            throws IndexOutOfBoundsException, IllegalArgumentException, IllegalStateException {
        checkStreet(street);
        checkPlace(place);
        checkNumber(from);
        checkNumber(to);
        if (to < from) {
            throw new IllegalArgumentException("to is below from");
        }
        if (!directory.takesSpan(street, from, to)) {
            throw new IllegalStateException("there are 4 spans, or one with a number in common");
        }
        return directory.addSpan(street, from, to, place);
    }

    public int name(int street, int name) throws IndexOutOfBoundsException, IllegalStateException {
        checkStreet(street);
        checkName(name);
        if (directory.nameNow(street) == name) {
            throw new IllegalStateException("the street bears the name");
        }
        if (directory.namings >= MOST_NAMINGS) {
            throw new IllegalStateException("100 names were given");
        }
        int before = directory.nameNow(street);
        directory.addNaming(street, name, now);
        return before;
    }

    public boolean same(int name, int other) throws IndexOutOfBoundsException {
        checkName(name);
        checkName(other);
        return directory.unite(name, other);
    }

    public int leads(int name, int number) throws IndexOutOfBoundsException, IllegalArgumentException {
        checkName(name);
        checkNumber(number);
        return directory.lead(name, number);
    }

    public int leadsAnew(int name, int number) throws IndexOutOfBoundsException, IllegalArgumentException {
        checkName(name);
        checkNumber(number);
        return directory.leadReplayed(name, number);
    }

    public int placeOf(int street, int number) throws IndexOutOfBoundsException, IllegalArgumentException {
        checkStreet(street);
        checkNumber(number);
        return directory.placeAt(street, number);
    }

    public int way(int place, int other) throws IndexOutOfBoundsException {
        checkPlace(place);
        checkPlace(other);
        return places.between(place, other);
    }

    // ---- calls, cars

    public int car(int place) throws IndexOutOfBoundsException, IllegalStateException {
        checkPlace(place);
        if (rescue.cars >= MOST_CARS) {
            throw new IllegalStateException("there are 6 cars");
        }
        return rescue.addCar(place);
    }

    public int call(int name, int number)
            throws IndexOutOfBoundsException, IllegalArgumentException, IllegalStateException {
        checkName(name);
        checkNumber(number);
        if (rescue.calls >= MOST_CALLS) {
            throw new IllegalStateException("there are 40 calls");
        }
        int call = rescue.addCall(name, number, directory);
        rescue.sendCars(places, now);
        return call;
    }

    public int clear(int call, int street) throws IndexOutOfBoundsException, IllegalStateException {
        checkCall(call);
        checkStreet(street);
        if (!rescue.mayBe(call, street, directory)) {
            throw new IllegalStateException("it is not in doubt, or the street is none of those in doubt");
        }
        rescue.find(call, street, directory);
        rescue.sendCars(places, now);
        return rescue.carOf(call);
    }

    public int ofCall(int call, int what) throws IndexOutOfBoundsException {
        checkCall(call);
        checkWhat(what, 5);
        return rescue.tellCall(call, what);
    }

    public int ofCar(int car, int what) throws IndexOutOfBoundsException {
        if (!isWithin(car, rescue.cars)) {
            throw new IndexOutOfBoundsException("no such car");
        }
        checkWhat(what, 2);
        return rescue.tellCar(car, what, now);
    }

    // ---- parcels, lockers

    public int locker(int place, int small, int middle, int big)
            throws IndexOutOfBoundsException, IllegalArgumentException, IllegalStateException {
        checkPlace(place);
        checkCompartments(small);
        checkCompartments(middle);
        checkCompartments(big);
        if (depot.lockers >= MOST_LOCKERS) {
            throw new IllegalStateException("there are 6 lockers");
        }
        return depot.addLocker(place, small, middle, big);
    }

    public int post(int name, int number, int size)
            throws IndexOutOfBoundsException, IllegalArgumentException, IllegalStateException {
        checkName(name);
        checkNumber(number);
        if (!isWithin(size, SIZES)) {
            throw new IllegalArgumentException("size is out of range");
        }
        if (depot.parcels >= MOST_PARCELS) {
            throw new IllegalStateException("there are 40 parcels");
        }
        return depot.addParcel(name, number, size, directory.lead(name, number));
    }

    public int take(int parcel) throws IndexOutOfBoundsException, IllegalStateException {
        checkParcel(parcel);
        if (!depot.holds(parcel)) {
            throw new IllegalStateException("the parcel is not held");
        }
        return depot.takeOut(parcel, now);
    }

    public int ofParcel(int parcel, int what) throws IndexOutOfBoundsException {
        checkParcel(parcel);
        checkWhat(what, 3);
        return depot.tellParcel(parcel, what);
    }

    public int free(int locker, int size) throws IndexOutOfBoundsException {
        if (!isWithin(locker, depot.lockers)) {
            throw new IndexOutOfBoundsException("no such locker");
        }
        if (!isWithin(size, SIZES)) {
            throw new IndexOutOfBoundsException("no such size");
        }
        return depot.freeIn(locker, size);
    }

    public int pass(int minutes) throws IllegalArgumentException, IllegalStateException {
        if (minutes < 1 || minutes > LONGEST_PASS) {
            throw new IllegalArgumentException("minutes is out of range");
        }
        if (now + minutes > LAST_MINUTE) {
            throw new IllegalStateException("the minute would be above 100000");
        }
        for (int gone = 0; gone < minutes; gone++) {
            now++;
            boolean freed = rescue.freeCars(now);
            if (now % DAY == 0) {
                depot.returnOverdue(now);
                depot.deliver(directory, places, now);
            }
            // Behind the first minute, calls that wait still do until a car is free again.
            if (freed || gone == 0) {
                rescue.sendCars(places, now);
            }
        }
        return now;
    }

    public int count(int what) throws IllegalArgumentException {
        switch (what) {
            case 0: return directory.streets;
            case 1: return directory.namings;
            case 2: return rescue.countFreeCars();
            case 3: return rescue.countCalls(WAITING);
            case 4: return rescue.countCalls(IN_DOUBT);
            case 5: return rescue.countCalls(DONE);
            case 6: return depot.countParcels(POSTED);
            case 7: return depot.countParcels(HELD);
            case 8: return depot.countSentOn();
            default: throw new IllegalArgumentException("what is out of range");
        }
    }

    // ---- what the calls are tested for

    private static boolean isWithin(int index, int count) {
        return index >= 0 && index < count;
    }

    private void checkPlace(int place) {
        if (!isWithin(place, places.count)) {
            throw new IndexOutOfBoundsException("no such place");
        }
    }

    private void checkStreet(int street) {
        if (!isWithin(street, directory.streets)) {
            throw new IndexOutOfBoundsException("no such street");
        }
    }

    private void checkCall(int call) {
        if (!isWithin(call, rescue.calls)) {
            throw new IndexOutOfBoundsException("no such call");
        }
    }

    private void checkParcel(int parcel) {
        if (!isWithin(parcel, depot.parcels)) {
            throw new IndexOutOfBoundsException("no such parcel");
        }
    }

    private static void checkName(int name) {
        if (!isWithin(name, NAMES)) {
            throw new IndexOutOfBoundsException("no such name");
        }
    }

    private static void checkWhat(int what, int last) {
        if (what < 0 || what > last) {
            throw new IndexOutOfBoundsException("what is out of range");
        }
    }

    private static void checkNumber(int number) {
        if (number < 1 || number > LAST_NUMBER) {
            throw new IllegalArgumentException("a house number is out of range");
        }
    }

    private static void checkCompartments(int compartments) {
        if (compartments < 0 || compartments > MOST_COMPARTMENTS) {
            throw new IllegalArgumentException("a number of compartments is out of range");
        }
    }

    /** The places and the shortest ways between them. */
    private static final class Places {
        private int count;
        private int ways;
        // The minutes from one place to another one stand at one * MOST_PLACES + other.
        private final int[] shortest = new int[MOST_PLACES * MOST_PLACES];

        Places() {
            Arrays.fill(shortest, NONE);
        }

        int add() {
            int place = count;
            if (place < MOST_PLACES) {
                count++;
                shortest[place * MOST_PLACES + place] = 0;
            }
            return place;
        }

        /** Tells a way, and returns how many there are. */
        int connect(int one, int other, int minutes) {
            for (int from = 0; from < count; from++) {
                for (int to = 0; to < count; to++) {
                    // A shortest way uses the new one at most once, in one direction.
                    shorten(from, to, added(between(from, one), minutes, between(other, to)));
                    shorten(from, to, added(between(from, other), minutes, between(one, to)));
                }
            }
            ways++;
            return ways;
        }

        int between(int one, int other) {
            if (!isWithin(one, count) || !isWithin(other, count)) {
                return NONE;
            }
            return shortest[one * MOST_PLACES + other];
        }

        private static int added(int before, int minutes, int behind) {
            if (before == NONE || behind == NONE) {
                return NONE;
            }
            return before + minutes + behind;
        }

        private void shorten(int from, int to, int minutes) {
            int known = between(from, to);
            boolean shorter = minutes != NONE && (known == NONE || minutes < known);
            if (shorter && isWithin(from, count) && isWithin(to, count)) {
                shortest[from * MOST_PLACES + to] = minutes;
            }
        }
    }

    /** The spans of one street. */
    private static final class Spans {
        private int count;
        private final int[] first = new int[MOST_SPANS];
        private final int[] last = new int[MOST_SPANS];
        private final int[] places = new int[MOST_SPANS];

        boolean haveInCommon(int from, int to) {
            for (int i = 0; i < count; i++) {
                if (from <= last[i] && first[i] <= to) {
                    return true;
                }
            }
            return false;
        }

        /** Tells a span, and returns how many there are. */
        int add(int from, int to, int place) {
            if (count < MOST_SPANS) {
                first[count] = from;
                last[count] = to;
                places[count] = place;
                count++;
            }
            return count;
        }

        int placeAt(int number) {
            for (int i = 0; i < count; i++) {
                if (first[i] <= number && number <= last[i]) {
                    return places[i];
                }
            }
            return NONE;
        }
    }

    /** The name that one street bears, and the minutes in which it last ceased to bear each name. */
    private static final class Bearing {
        private int name = NONE;
        private final int[] ceased = new int[NAMES];

        Bearing() {
            Arrays.fill(ceased, NONE);
        }

        void forget() {
            name = NONE;
            Arrays.fill(ceased, NONE);
        }

        void rename(int newName, int minute) {
            if (isWithin(name, NAMES)) {
                ceased[name] = minute;
            }
            name = newName;
        }
    }

    /** The streets, their names of today and of old, and where these lead. */
    private static final class Directory {
        private int streets;
        private final Spans[] spans = new Spans[MOST_STREETS];
        private final Bearing[] current = new Bearing[MOST_STREETS];
        // Rows for telling all namings again.
        private final Bearing[] replayed = new Bearing[MOST_STREETS];
        // Names that are the same have the same number here.
        private final int[] group = new int[NAMES];
        private int namings;
        private final int[] namedStreets = new int[MOST_NAMINGS];
        private final int[] namesGiven = new int[MOST_NAMINGS];
        private final int[] namingMinutes = new int[MOST_NAMINGS];

        Directory() {
            for (int i = 0; i < MOST_STREETS; i++) {
                spans[i] = new Spans();
                current[i] = new Bearing();
                replayed[i] = new Bearing();
            }
            for (int i = 0; i < NAMES; i++) {
                group[i] = i;
            }
        }

        int addStreet() {
            int street = streets;
            if (street < MOST_STREETS) {
                streets++;
            }
            return street;
        }

        boolean takesSpan(int street, int from, int to) {
            return isWithin(street, streets)
                && spans[street].count < MOST_SPANS
                && !spans[street].haveInCommon(from, to);
        }

        int addSpan(int street, int from, int to, int place) {
            if (!isWithin(street, streets)) {
                return NONE;
            }
            return spans[street].add(from, to, place);
        }

        int placeAt(int street, int number) {
            if (!isWithin(street, streets)) {
                return NONE;
            }
            return spans[street].placeAt(number);
        }

        int nameNow(int street) {
            if (!isWithin(street, streets)) {
                return NONE;
            }
            return current[street].name;
        }

        void addNaming(int street, int name, int minute) {
            if (isWithin(street, streets) && namings < MOST_NAMINGS) {
                namedStreets[namings] = street;
                namesGiven[namings] = name;
                namingMinutes[namings] = minute;
                namings++;
                current[street].rename(name, minute);
            }
        }

        boolean areSame(int name, int other) {
            return isWithin(name, NAMES) && isWithin(other, NAMES) && group[name] == group[other];
        }

        /** Makes two names the same, and returns whether they were not yet. */
        boolean unite(int name, int other) {
            if (!isWithin(name, NAMES) || !isWithin(other, NAMES) || areSame(name, other)) {
                return false;
            }
            int kept = group[name];
            int given = group[other];
            for (int i = 0; i < NAMES; i++) {
                if (group[i] == given) {
                    group[i] = kept;
                }
            }
            return true;
        }

        int lead(int name, int number) {
            int street = bearer(current, name, number);
            return street == NONE ? formerBearer(current, name, number) : street;
        }

        int leadToday(int name, int number) {
            return bearer(current, name, number);
        }

        int leadOfOld(int name, int number) {
            return formerBearer(current, name, number);
        }

        /** Leads by telling all namings again, from the first one on. */
        int leadReplayed(int name, int number) {
            for (int i = 0; i < streets; i++) {
                replayed[i].forget();
            }
            for (int i = 0; i < namings; i++) {
                int street = namedStreets[i];
                if (isWithin(street, streets)) {
                    replayed[street].rename(namesGiven[i], namingMinutes[i]);
                }
            }
            int street = bearer(replayed, name, number);
            return street == NONE ? formerBearer(replayed, name, number) : street;
        }

        boolean bears(int street, int name, int number) {
            return areSame(nameNow(street), name) && placeAt(street, number) != NONE;
        }

        private int bearer(Bearing[] bearings, int name, int number) {
            int found = NONE;
            for (int i = 0; i < streets && i < bearings.length; i++) {
                if (areSame(bearings[i].name, name) && placeAt(i, number) != NONE) {
                    if (found != NONE) {
                        return DOUBT;
                    }
                    found = i;
                }
            }
            return found;
        }

        private int formerBearer(Bearing[] bearings, int name, int number) {
            int found = NONE;
            int latest = NONE;
            for (int i = 0; i < streets && i < bearings.length; i++) {
                int ceased = placeAt(i, number) == NONE ? NONE : lastCeased(bearings[i], name);
                if (ceased > latest) {
                    latest = ceased;
                    found = i;
                }
            }
            return found;
        }

        private int lastCeased(Bearing bearing, int name) {
            int latest = NONE;
            for (int i = 0; i < NAMES; i++) {
                if (areSame(i, name)) {
                    latest = Math.max(latest, bearing.ceased[i]);
                }
            }
            return latest;
        }
    }

    /** Somebody's call. */
    private static final class Call {
        private int name;
        private int number;
        private int state;
        private int street = NONE;
        private int place = NONE;
        private int car = NONE;
        private int there = NONE;
        private boolean old;
    }

    /** A car; it is free while it has no call. */
    private static final class Car {
        private int place;
        private Call call;
        private int freeAt;
    }

    /** The calls, and the cars that are sent to them. */
    private static final class Rescue {
        private int cars;
        private int calls;
        private final Car[] carRows = new Car[MOST_CARS];
        private final Call[] callRows = new Call[MOST_CALLS];

        Rescue() {
            for (int i = 0; i < MOST_CARS; i++) {
                carRows[i] = new Car();
            }
            for (int i = 0; i < MOST_CALLS; i++) {
                callRows[i] = new Call();
            }
        }

        int addCar(int place) {
            int added = cars;
            if (added < MOST_CARS) {
                cars++;
                carRows[added].place = place;
            }
            return added;
        }

        /** Tells a call and finds its place, but sends no car yet. */
        int addCall(int name, int number, Directory directory) {
            int added = calls;
            if (added >= MOST_CALLS) {
                return NONE;
            }
            calls++;
            Call call = callRows[added];
            call.name = name;
            call.number = number;
            int street = directory.leadToday(name, number);
            if (street == NONE) {
                street = directory.leadOfOld(name, number);
                call.old = street != NONE;
            }
            if (street == DOUBT) {
                call.state = IN_DOUBT;
            } else if (street == NONE) {
                call.state = LOST;
            } else {
                find(added, street, directory);
            }
            return added;
        }

        /** Whether the call is in doubt and the street is one of those that it may be. */
        boolean mayBe(int number, int street, Directory directory) {
            if (!isWithin(number, calls)) {
                return false;
            }
            Call call = callRows[number];
            return call.state == IN_DOUBT && directory.bears(street, call.name, call.number);
        }

        void find(int number, int street, Directory directory) {
            if (isWithin(number, calls)) {
                Call call = callRows[number];
                call.state = WAITING;
                call.street = street;
                call.place = directory.placeAt(street, call.number);
            }
        }

        /** Frees the cars whose time has come, and returns whether there was one. */
        boolean freeCars(int now) {
            boolean freed = false;
            for (int i = 0; i < cars; i++) {
                Car car = carRows[i];
                Call call = car.call;
                if (call != null && car.freeAt <= now) {
                    call.state = DONE;
                    car.call = null;
                    freed = true;
                }
            }
            return freed;
        }

        void sendCars(Places places, int now) {
            for (int i = 0; i < calls; i++) {
                Call call = callRows[i];
                if (call.state == WAITING) {
                    sendNearest(call, places, now);
                }
            }
        }

        private void sendNearest(Call call, Places places, int now) {
            int nearest = nearestFree(call.place, places);
            if (!isWithin(nearest, cars)) {
                return;
            }
            Car car = carRows[nearest];
            call.state = SENT;
            call.car = nearest;
            call.there = now + places.between(car.place, call.place) + (call.old ? 1 : 0);
            car.place = call.place;
            car.call = call;
            car.freeAt = call.there + MINUTES_THERE;
        }

        private int nearestFree(int place, Places places) {
            int nearest = NONE;
            int shortest = NONE;
            for (int i = 0; i < cars; i++) {
                int way = places.between(carRows[i].place, place);
                boolean comes = carRows[i].call == null && way != NONE;
                if (comes && (nearest == NONE || way < shortest)) {
                    nearest = i;
                    shortest = way;
                }
            }
            return nearest;
        }

        int carOf(int number) {
            return isWithin(number, calls) ? callRows[number].car : NONE;
        }

        int tellCall(int number, int what) {
            if (!isWithin(number, calls)) {
                return NONE;
            }
            Call call = callRows[number];
            switch (what) {
                case 0: return call.state;
                case 1: return call.street;
                case 2: return call.place;
                case 3: return call.car;
                case 4: return call.there;
                default: return call.old ? 1 : 0;
            }
        }

        int tellCar(int number, int what, int now) {
            if (!isWithin(number, cars)) {
                return NONE;
            }
            Car car = carRows[number];
            boolean isFree = car.call == null;
            switch (what) {
                case 0: return isFree ? 1 : 0;
                case 1: return car.place;
                default: return isFree ? 0 : car.freeAt - now;
            }
        }

        int countCalls(int state) {
            int counted = 0;
            for (int i = 0; i < calls; i++) {
                if (callRows[i].state == state) {
                    counted++;
                }
            }
            return counted;
        }

        int countFreeCars() {
            int counted = 0;
            for (int i = 0; i < cars; i++) {
                if (carRows[i].call == null) {
                    counted++;
                }
            }
            return counted;
        }
    }

    /** A locker, and how many of its compartments are free, by sizes. */
    private static final class Locker {
        private int place;
        private final int[] unused = new int[SIZES];

        int unusedOf(int size) {
            return isWithin(size, SIZES) ? unused[size] : 0;
        }

        void change(int size, int by) {
            if (isWithin(size, SIZES)) {
                unused[size] += by;
            }
        }

        /** The smallest size that is free and no smaller than the one asked for. */
        int smallestFor(int size) {
            for (int i = Math.max(size, 0); i < SIZES; i++) {
                if (unused[i] > 0) {
                    return i;
                }
            }
            return NONE;
        }
    }

    /** A parcel, and the street to which it would have been led as it was posted. */
    private static final class Parcel {
        private int name;
        private int number;
        private int size;
        private int streetAtFirst;
        private int state;
        private int locker = NONE;
        private int compartment = NONE;
        private int since;
        private boolean sentOn;
    }

    /** The parcels, and the lockers to which they are delivered. */
    private static final class Depot {
        private int lockers;
        private int parcels;
        private final Locker[] lockerRows = new Locker[MOST_LOCKERS];
        private final Parcel[] parcelRows = new Parcel[MOST_PARCELS];

        Depot() {
            for (int i = 0; i < MOST_LOCKERS; i++) {
                lockerRows[i] = new Locker();
            }
            for (int i = 0; i < MOST_PARCELS; i++) {
                parcelRows[i] = new Parcel();
            }
        }

        int addLocker(int place, int small, int middle, int big) {
            int added = lockers;
            if (added < MOST_LOCKERS) {
                lockers++;
                lockerRows[added].place = place;
                lockerRows[added].change(0, small);
                lockerRows[added].change(1, middle);
                lockerRows[added].change(2, big);
            }
            return added;
        }

        int addParcel(int name, int number, int size, int street) {
            int added = parcels;
            if (added < MOST_PARCELS) {
                parcels++;
                Parcel parcel = parcelRows[added];
                parcel.name = name;
                parcel.number = number;
                parcel.size = size;
                parcel.streetAtFirst = street;
                parcel.state = POSTED;
            }
            return added;
        }

        boolean holds(int number) {
            return isWithin(number, parcels) && parcelRows[number].state == HELD;
        }

        /** Takes a parcel out, and returns for how many minutes it was there. */
        int takeOut(int number, int now) {
            if (!isWithin(number, parcels)) {
                return NONE;
            }
            Parcel parcel = parcelRows[number];
            remove(parcel, TAKEN);
            return now - parcel.since;
        }

        void returnOverdue(int now) {
            for (int i = 0; i < parcels; i++) {
                Parcel parcel = parcelRows[i];
                if (parcel.state == HELD && now - parcel.since >= DAYS_HELD * DAY) {
                    remove(parcel, RETURNED);
                }
            }
        }

        private void remove(Parcel parcel, int state) {
            parcel.state = state;
            if (isWithin(parcel.locker, lockers)) {
                lockerRows[parcel.locker].change(parcel.compartment, 1);
            }
        }

        void deliver(Directory directory, Places places, int now) {
            for (int i = 0; i < parcels; i++) {
                Parcel parcel = parcelRows[i];
                if (parcel.state == POSTED) {
                    int street = directory.lead(parcel.name, parcel.number);
                    int place = directory.placeAt(street, parcel.number);
                    int locker = nearestFor(parcel.size, place, places);
                    putInto(locker, parcel, street, now);
                }
            }
        }

        private int nearestFor(int size, int place, Places places) {
            int nearest = NONE;
            int shortest = NONE;
            for (int i = 0; i < lockers; i++) {
                int way = places.between(lockerRows[i].place, place);
                boolean takesIt = way != NONE && lockerRows[i].smallestFor(size) != NONE;
                if (takesIt && (nearest == NONE || way < shortest)) {
                    nearest = i;
                    shortest = way;
                }
            }
            return nearest;
        }

        private void putInto(int locker, Parcel parcel, int street, int now) {
            if (isWithin(locker, lockers)) {
                parcel.state = HELD;
                parcel.locker = locker;
                parcel.compartment = lockerRows[locker].smallestFor(parcel.size);
                parcel.since = now;
                // NONE and DOUBT are no streets, so they differ from the one found now.
                parcel.sentOn = street != parcel.streetAtFirst;
                lockerRows[locker].change(parcel.compartment, -1);
            }
        }

        int tellParcel(int number, int what) {
            if (!isWithin(number, parcels)) {
                return NONE;
            }
            Parcel parcel = parcelRows[number];
            switch (what) {
                case 0: return parcel.state;
                case 1: return parcel.locker;
                case 2: return parcel.compartment;
                default: return parcel.sentOn ? 1 : 0;
            }
        }

        int freeIn(int locker, int size) {
            return isWithin(locker, lockers) ? lockerRows[locker].unusedOf(size) : 0;
        }

        int countParcels(int state) {
            int counted = 0;
            for (int i = 0; i < parcels; i++) {
                if (parcelRows[i].state == state) {
                    counted++;
                }
            }
            return counted;
        }

        int countSentOn() {
            int counted = 0;
            for (int i = 0; i < parcels; i++) {
                if (parcelRows[i].sentOn) {
                    counted++;
                }
            }
            return counted;
        }
    }
}
