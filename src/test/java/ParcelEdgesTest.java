/** The edges of promises 17 locker, 18 post, 19 take, 20 ofParcel and 21 free, a sentence each. */
final class ParcelEdgesTest {
    private static final Check CHECK = new Check("ParcelEdgesTest");
    private static final int NONE = CompassRolls.NONE;
    private static final int POSTED = CompassRolls.POSTED;
    private static final int HELD = CompassRolls.HELD;
    private static final int TAKEN = CompassRolls.TAKEN;
    private static final int RETURNED = CompassRolls.RETURNED;
    private static final int DAY = Town.DAY;

    public static void main(String[] args) {
        sixLockers();
        lockerPlaces();
        lockerCompartments();
        fortyParcels();
        postNames();
        postNumbers();
        postSizes();
        postThrowsInOrder();
        deliveredAsADayBegins();
        deliveredByNumbers();
        nearestLocker();
        lowestOfSeveral();
        lockerAtThePlace();
        lockerWithoutAWay();
        noLocker();
        smallestCompartment();
        noneIsLargeEnough();
        nearestOfThoseWithRoom();
        nowhereOrInDoubt();
        byAnOldName();
        sentOnToAnotherStreet();
        sentOnFromNowhere();
        sentOnFromADoubt();
        notSentOn();
        takeRange();
        takeOnlyHeld();
        takeMinutes();
        returnedAfterThreeDays();
        returnedAheadOfDelivering();
        ofParcelRange();
        freeRange();
        CHECK.end();
    }

    private static void parcel(CompassRolls x, int parcel, int... want) {
        for (int what = 0; what < want.length; what++) {
            CHECK.due("ofParcel(" + parcel + ", " + what + ")", want[what], x.ofParcel(parcel, what));
        }
    }

    private static void frees(CompassRolls x, int locker, int... want) {
        for (int size = 0; size < 3; size++) {
            CHECK.due("free(" + locker + ", " + size + ")", want[size], x.free(locker, size));
        }
    }

    private static void sixLockers() {
        CompassRolls x = Town.places(1);
        for (int i = 0; i < 6; i++) {
            CHECK.due("locker", i, x.locker(0, i, 1, 1));
        }
        CHECK.illegalState("the seventh locker", () -> x.locker(0, 1, 1, 1));
        CHECK.illegalArgument("the seventh, small is out of range", () -> x.locker(0, 10, 1, 1));
        CHECK.illegalArgument("the seventh, big is out of range", () -> x.locker(0, 1, 1, -1));
        CHECK.outOfBounds("the seventh, nowhere", () -> x.locker(1, 1, 1, 1));
        CHECK.outOfBounds("the seventh, nowhere, out of range", () -> x.locker(1, 1, 10, 1));
        frees(x, 5, 5, 1, 1);
        CHECK.outOfBounds("it is not there", () -> x.free(6, 0));
    }

    private static void lockerPlaces() {
        CompassRolls x = Town.places(12);
        for (int place : Check.beyond(0, 11)) {
            CHECK.outOfBounds("locker at " + place, () -> x.locker(place, 1, 1, 1));
            CHECK.outOfBounds("and out of range", () -> x.locker(place, 1, 1, 10));
        }
        CHECK.due("at the lowest place", 0, x.locker(0, 1, 1, 1));
        CHECK.due("at the highest place", 1, x.locker(11, 1, 1, 1));
    }

    private static void lockerCompartments() {
        CompassRolls x = Town.places(1);
        int[][] allowed = {{0, 0, 0}, {9, 9, 9}, {9, 0, 0}, {0, 9, 0}, {0, 0, 9}};
        for (int i = 0; i < allowed.length; i++) {
            CHECK.due("locker", i, x.locker(0, allowed[i][0], allowed[i][1], allowed[i][2]));
            frees(x, i, allowed[i]);
        }
        for (int compartments : Check.beyond(0, 9)) {
            CHECK.illegalArgument("small " + compartments, () -> x.locker(0, compartments, 9, 9));
            CHECK.illegalArgument("middle " + compartments, () -> x.locker(0, 9, compartments, 9));
            CHECK.illegalArgument("big " + compartments, () -> x.locker(0, 9, 9, compartments));
        }
        CHECK.due("refused ones are not counted", 5, x.locker(0, 1, 1, 1));
    }

    private static void fortyParcels() {
        CompassRolls x = Town.streets(1);
        x.name(0, 0);
        x.locker(0, 9, 9, 9);
        for (int i = 0; i < 40; i++) {
            CHECK.due("post", i, x.post(0, 1 + i, i % 3));
        }
        CHECK.illegalState("the 41st parcel", () -> x.post(0, 1, 0));
        CHECK.outOfBounds("it is not there", () -> x.ofParcel(40, 0));
        x.pass(DAY);
        CHECK.due("27 compartments are taken", 27, x.count(7));
        CHECK.due("13 parcels wait", 13, x.count(6));
        x.take(0);
        CHECK.illegalState("the 41st parcel, as one was taken", () -> x.post(0, 1, 0));
    }

    private static void postNames() {
        CompassRolls x = Town.streets(2);
        x.name(0, 0);
        x.name(1, 29);
        x.locker(0, 9, 0, 0);
        CHECK.due("to the lowest name", 0, x.post(0, 1, 0));
        CHECK.due("to the highest name", 1, x.post(29, 1, 0));
        for (int name : Check.beyond(0, 29)) {
            CHECK.outOfBounds("post to " + name, () -> x.post(name, 1, 0));
            CHECK.outOfBounds("and no number", () -> x.post(name, 0, 0));
            CHECK.outOfBounds("and no size", () -> x.post(name, 1, 3));
        }
        x.pass(DAY);
        parcel(x, 0, HELD);
        parcel(x, 1, HELD);
    }

    private static void postNumbers() {
        CompassRolls x = Town.streets(1);
        x.name(0, 0);
        x.locker(0, 9, 0, 0);
        CHECK.due("to the lowest number", 0, x.post(0, 1, 0));
        CHECK.due("to the highest number", 1, x.post(0, 999, 0));
        for (int number : Check.beyond(1, 999)) {
            CHECK.illegalArgument("post to number " + number, () -> x.post(0, number, 0));
        }
        CHECK.due("refused ones are not counted", 2, x.post(0, 1, 0));
        x.pass(DAY);
        CHECK.due("all are held", 3, x.count(7));
    }

    private static void postSizes() {
        CompassRolls x = Town.streets(1);
        x.name(0, 0);
        x.locker(0, 1, 1, 1);
        CHECK.due("of the lowest size", 0, x.post(0, 1, 0));
        CHECK.due("of the middle size", 1, x.post(0, 1, 1));
        CHECK.due("of the highest size", 2, x.post(0, 1, 2));
        for (int size : Check.beyond(0, 2)) {
            CHECK.illegalArgument("post of size " + size, () -> x.post(0, 1, size));
        }
        x.pass(DAY);
        for (int size = 0; size < 3; size++) {
            parcel(x, size, HELD, 0, size, 0);
        }
    }

    private static void postThrowsInOrder() {
        CompassRolls x = Town.streets(1);
        for (int i = 0; i < 40; i++) {
            x.post(0, 1, 0);
        }
        CHECK.outOfBounds("no name, 40 parcels", () -> x.post(30, 1, 0));
        CHECK.outOfBounds("no name, no number, no size, 40 parcels", () -> x.post(-1, 0, 3));
        CHECK.illegalArgument("no number, 40 parcels", () -> x.post(0, 1000, 0));
        CHECK.illegalArgument("no size, 40 parcels", () -> x.post(0, 1, 3));
        CHECK.illegalState("40 parcels", () -> x.post(0, 1, 0));
        CHECK.due("40 are posted", 40, x.count(6));
    }

    private static CompassRolls oneLocker(int small, int middle, int big) {
        CompassRolls x = Town.built();
        x.locker(0, small, middle, big);
        return x;
    }

    private static void deliveredAsADayBegins() {
        CompassRolls x = oneLocker(9, 0, 0);
        x.post(0, 1, 0);
        parcel(x, 0, POSTED, NONE, NONE, 0);
        x.pass(DAY - 1);
        parcel(x, 0, POSTED, NONE, NONE, 0);
        x.post(0, 1, 0);
        x.pass(1);
        parcel(x, 0, HELD, 0, 0, 0);
        parcel(x, 1, HELD, 0, 0, 0);
        x.post(0, 1, 0);
        x.pass(DAY - 1);
        parcel(x, 2, POSTED, NONE, NONE, 0);
        x.pass(1);
        parcel(x, 2, HELD, 0, 0, 0);
    }

    private static void deliveredByNumbers() {
        CompassRolls x = oneLocker(0, 1, 1);
        x.post(0, 1, 0);
        x.post(0, 1, 0);
        x.post(0, 1, 1);
        x.post(0, 1, 2);
        x.pass(DAY);
        parcel(x, 0, HELD, 0, 1, 0);
        parcel(x, 1, HELD, 0, 2, 0);
        parcel(x, 2, POSTED, NONE, NONE, 0);
        parcel(x, 3, POSTED, NONE, NONE, 0);
        x.take(1);
        x.pass(DAY);
        parcel(x, 2, HELD, 0, 2, 0);
        parcel(x, 3, POSTED, NONE, NONE, 0);
    }

    private static void nearestLocker() {
        CompassRolls x = Town.built();
        x.locker(0, 1, 0, 0);
        x.locker(2, 1, 0, 0);
        x.locker(1, 1, 0, 0);
        for (int i = 0; i < 3; i++) {
            x.post(1, 1, 0);
        }
        x.pass(DAY);
        parcel(x, 0, HELD, 2, 0, 0);
        parcel(x, 1, HELD, 1, 0, 0);
        parcel(x, 2, HELD, 0, 0, 0);
    }

    private static void lowestOfSeveral() {
        CompassRolls x = Town.built();
        x.join(1, 3, 5);
        x.locker(3, 1, 0, 0);
        x.locker(0, 1, 0, 0);
        x.locker(0, 1, 0, 0);
        for (int i = 0; i < 4; i++) {
            x.post(1, 1, 0);
        }
        x.pass(DAY);
        for (int i = 0; i < 3; i++) {
            parcel(x, i, HELD, i, 0, 0);
        }
        parcel(x, 3, POSTED, NONE, NONE, 0);
    }

    private static void lockerAtThePlace() {
        CompassRolls x = Town.built();
        x.locker(3, 1, 1, 1);
        x.post(3, 99, 0);
        x.pass(DAY);
        parcel(x, 0, HELD, 0, 0, 0);
    }

    private static void lockerWithoutAWay() {
        CompassRolls x = Town.built();
        x.locker(3, 9, 9, 9);
        x.locker(2, 1, 0, 0);
        x.post(0, 1, 0);
        x.post(0, 1, 0);
        x.pass(DAY);
        parcel(x, 0, HELD, 1, 0, 0);
        parcel(x, 1, POSTED, NONE, NONE, 0);
        x.join(3, 0, 60);
        x.pass(DAY - 1);
        parcel(x, 1, POSTED, NONE, NONE, 0);
        x.pass(1);
        parcel(x, 1, HELD, 0, 0, 0);
    }

    private static void noLocker() {
        CompassRolls x = Town.built();
        x.post(0, 1, 0);
        x.pass(2 * DAY);
        parcel(x, 0, POSTED, NONE, NONE, 0);
        x.locker(0, 0, 0, 0);
        x.pass(DAY);
        parcel(x, 0, POSTED, NONE, NONE, 0);
        x.locker(0, 0, 0, 1);
        x.pass(DAY);
        parcel(x, 0, HELD, 1, 2, 0);
    }

    private static void smallestCompartment() {
        CompassRolls x = oneLocker(2, 1, 2);
        for (int size : new int[] {0, 0, 0, 0, 0, 0}) {
            x.post(0, 1, size);
        }
        x.pass(DAY);
        int[] compartments = {0, 0, 1, 2, 2};
        for (int i = 0; i < 5; i++) {
            parcel(x, i, HELD, 0, compartments[i], 0);
        }
        parcel(x, 5, POSTED, NONE, NONE, 0);
        frees(x, 0, 0, 0, 0);
        CompassRolls y = oneLocker(9, 1, 1);
        for (int i = 0; i < 3; i++) {
            y.post(0, 1, 1);
        }
        y.pass(DAY);
        parcel(y, 0, HELD, 0, 1, 0);
        parcel(y, 1, HELD, 0, 2, 0);
        parcel(y, 2, POSTED, NONE, NONE, 0);
        frees(y, 0, 9, 0, 0);
    }

    private static void noneIsLargeEnough() {
        CompassRolls x = oneLocker(9, 9, 0);
        x.post(0, 1, 2);
        x.post(0, 1, 1);
        x.pass(DAY);
        parcel(x, 0, POSTED, NONE, NONE, 0);
        parcel(x, 1, HELD, 0, 1, 0);
        CompassRolls y = oneLocker(9, 0, 0);
        y.post(0, 1, 1);
        y.pass(DAY);
        parcel(y, 0, POSTED, NONE, NONE, 0);
        frees(y, 0, 9, 0, 0);
    }

    /** A nearer locker with a greater compartment goes ahead of a farther one with the right size. */
    private static void nearestOfThoseWithRoom() {
        CompassRolls x = Town.built();
        x.locker(1, 9, 0, 0);
        x.locker(0, 0, 0, 1);
        x.locker(2, 9, 9, 9);
        x.post(0, 1, 0);
        x.post(0, 1, 1);
        x.post(0, 1, 0);
        x.pass(DAY);
        parcel(x, 0, HELD, 1, 2, 0);
        parcel(x, 1, HELD, 2, 1, 0);
        parcel(x, 2, HELD, 0, 0, 0);
    }

    private static void nowhereOrInDoubt() {
        CompassRolls x = oneLocker(9, 0, 0);
        x.name(1, 0);
        x.post(0, 1, 0);
        x.post(9, 1, 0);
        x.post(2, 100, 0);
        x.pass(DAY);
        for (int i = 0; i < 3; i++) {
            parcel(x, i, POSTED, NONE, NONE, 0);
        }
        frees(x, 0, 9, 0, 0);
        x.name(1, 9);
        x.span(2, 100, 100, 2);
        x.pass(DAY);
        for (int i = 0; i < 3; i++) {
            parcel(x, i, HELD, 0, 0, 1);
        }
        frees(x, 0, 6, 0, 0);
    }

    private static void byAnOldName() {
        CompassRolls x = oneLocker(9, 0, 0);
        x.post(0, 1, 0);
        x.name(0, 9);
        x.post(0, 1, 0);
        x.pass(DAY);
        parcel(x, 0, HELD, 0, 0, 0);
        parcel(x, 1, HELD, 0, 0, 0);
    }

    private static void sentOnToAnotherStreet() {
        CompassRolls x = oneLocker(9, 0, 0);
        x.post(0, 1, 0);
        x.name(0, 9);
        x.name(1, 0);
        x.pass(DAY - 1);
        parcel(x, 0, POSTED, NONE, NONE, 0);
        CHECK.due("not as long as it is POSTED", 0, x.count(8));
        x.pass(1);
        parcel(x, 0, HELD, 0, 0, 1);
        CHECK.due("one was sent on", 1, x.count(8));
        x.take(0);
        parcel(x, 0, TAKEN, 0, 0, 1);
        CHECK.due("as it is TAKEN, too", 1, x.count(8));
    }

    private static void sentOnFromNowhere() {
        CompassRolls x = oneLocker(9, 0, 0);
        x.post(9, 1, 0);
        x.name(0, 9);
        x.pass(DAY);
        parcel(x, 0, HELD, 0, 0, 1);
    }

    private static void sentOnFromADoubt() {
        CompassRolls x = oneLocker(9, 0, 0);
        x.name(1, 0);
        x.post(0, 1, 0);
        x.name(0, 9);
        x.pass(DAY);
        parcel(x, 0, HELD, 0, 0, 1);
        CompassRolls y = oneLocker(9, 0, 0);
        y.name(1, 0);
        y.post(0, 1, 0);
        y.name(1, 9);
        y.pass(DAY);
        parcel(y, 0, HELD, 0, 0, 1);
    }

    /** Only the street as it was posted and as it is delivered counts, not those between. */
    private static void notSentOn() {
        CompassRolls x = oneLocker(0, 0, 0);
        x.post(0, 1, 0);
        x.name(1, 0);
        x.pass(DAY);
        x.name(0, 9);
        x.pass(DAY);
        x.name(1, 8);
        x.name(0, 0);
        x.locker(0, 1, 0, 0);
        x.pass(DAY);
        parcel(x, 0, HELD, 1, 0, 0);
        CHECK.due("none was sent on", 0, x.count(8));
        x.name(0, 7);
        x.name(2, 0);
        x.pass(DAY);
        parcel(x, 0, HELD, 1, 0, 0);
    }

    private static void takeRange() {
        CompassRolls x = oneLocker(9, 9, 9);
        CHECK.outOfBounds("no parcel yet", () -> x.take(0));
        for (int i = 0; i < 27; i++) {
            x.post(0, 1, 0);
        }
        x.pass(DAY);
        for (int parcel : Check.beyond(0, 26)) {
            CHECK.outOfBounds("take(" + parcel + ")", () -> x.take(parcel));
        }
        CHECK.due("the lowest parcel", 0, x.take(0));
        CHECK.due("the highest parcel", 0, x.take(26));
        CHECK.due("25 are held", 25, x.count(7));
    }

    private static void takeOnlyHeld() {
        CompassRolls x = oneLocker(1, 0, 0);
        x.post(0, 1, 0);
        x.post(0, 1, 0);
        CHECK.illegalState("POSTED", () -> x.take(0));
        x.pass(DAY);
        x.take(0);
        CHECK.illegalState("TAKEN", () -> x.take(0));
        frees(x, 0, 1, 0, 0);
        CHECK.illegalState("POSTED still", () -> x.take(1));
        x.pass(DAY);
        x.pass(2 * DAY);
        x.pass(DAY);
        CHECK.illegalState("RETURNED", () -> x.take(1));
        frees(x, 0, 1, 0, 0);
        parcel(x, 0, TAKEN, 0, 0, 0);
        parcel(x, 1, RETURNED, 0, 0, 0);
    }

    private static void takeMinutes() {
        CompassRolls x = oneLocker(9, 0, 0);
        for (int i = 0; i < 5; i++) {
            x.post(0, 1, 0);
        }
        x.pass(DAY);
        CHECK.due("in the minute in which it comes", 0, x.take(0));
        x.pass(1);
        CHECK.due("a minute later", 1, x.take(1));
        x.pass(DAY - 1);
        CHECK.due("a day later", DAY, x.take(2));
        x.pass(2 * DAY - 1);
        CHECK.due("in the last minute", 3 * DAY - 1, x.take(3));
        x.pass(1);
        CHECK.illegalState("a minute later", () -> x.take(4));
    }

    private static void returnedAfterThreeDays() {
        CompassRolls x = oneLocker(1, 0, 0);
        x.pass(DAY + 700);
        x.post(0, 1, 0);
        x.pass(DAY - 700);
        x.pass(2 * DAY);
        parcel(x, 0, HELD, 0, 0, 0);
        x.pass(DAY - 1);
        parcel(x, 0, HELD, 0, 0, 0);
        frees(x, 0, 0, 0, 0);
        CHECK.due("held in the last minute", 1, x.count(7));
        x.pass(1);
        parcel(x, 0, RETURNED, 0, 0, 0);
        frees(x, 0, 1, 0, 0);
        CHECK.due("held no more", 0, x.count(7));
        CHECK.due("nor posted", 0, x.count(6));
        x.pass(2 * DAY);
        parcel(x, 0, RETURNED, 0, 0, 0);
        frees(x, 0, 1, 0, 0);
    }

    private static void returnedAheadOfDelivering() {
        CompassRolls x = oneLocker(0, 1, 0);
        x.post(0, 1, 1);
        x.post(0, 1, 0);
        x.pass(2 * DAY);
        x.pass(2 * DAY - 1);
        parcel(x, 1, POSTED, NONE, NONE, 0);
        x.pass(1);
        parcel(x, 0, RETURNED, 0, 1, 0);
        parcel(x, 1, HELD, 0, 1, 0);
        frees(x, 0, 0, 0, 0);
        CHECK.due("it came in this minute", 0, x.take(1));
        CompassRolls y = oneLocker(0, 0, 1);
        y.post(9, 1, 0);
        y.post(0, 1, 0);
        y.pass(2 * DAY);
        y.name(1, 9);
        y.pass(2 * DAY);
        parcel(y, 1, RETURNED, 0, 2, 0);
        parcel(y, 0, HELD, 0, 2, 1);
    }

    private static void ofParcelRange() {
        CompassRolls x = oneLocker(9, 9, 9);
        CHECK.outOfBounds("no parcel yet", () -> x.ofParcel(0, 0));
        for (int i = 0; i < 40; i++) {
            x.post(0, 1, 0);
        }
        parcel(x, 0, POSTED, NONE, NONE, 0);
        parcel(x, 39, POSTED, NONE, NONE, 0);
        for (int parcel : Check.beyond(0, 39)) {
            CHECK.outOfBounds("ofParcel(" + parcel + ", 0)", () -> x.ofParcel(parcel, 0));
        }
        for (int what : Check.beyond(0, 3)) {
            CHECK.outOfBounds("ofParcel(0, " + what + ")", () -> x.ofParcel(0, what));
        }
    }

    private static void freeRange() {
        CompassRolls x = Town.built();
        CHECK.outOfBounds("no locker yet", () -> x.free(0, 0));
        for (int i = 0; i < 6; i++) {
            x.locker(i % 3, 9 - i, i, 1);
        }
        frees(x, 0, 9, 0, 1);
        frees(x, 5, 4, 5, 1);
        for (int locker : Check.beyond(0, 5)) {
            CHECK.outOfBounds("free(" + locker + ", 0)", () -> x.free(locker, 0));
        }
        for (int size : Check.beyond(0, 2)) {
            CHECK.outOfBounds("free(0, " + size + ")", () -> x.free(0, size));
        }
        x.post(0, 1, 2);
        x.pass(DAY);
        frees(x, 0, 9, 0, 0);
        x.take(0);
        frees(x, 0, 9, 0, 1);
        frees(x, 5, 4, 5, 1);
    }
}
