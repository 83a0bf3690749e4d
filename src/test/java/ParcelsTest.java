/** Promises 17 to 21: lockers, parcels, and what they tell. */
final class ParcelsTest {
    private static final Check CHECK = new Check("ParcelsTest");
    private static final int NONE = CompassRolls.NONE;
    private static final int DAY = 1440;

    public static void main(String[] args) {
        lockers();
        oneParcel();
        nearestLocker();
        compartments();
        numbersAndDays();
        sentOn();
        returned();
        limits();
        wrongInputs();
        CHECK.end();
    }

    private static void parcel(CompassRolls x, int parcel, int... want) {
        for (int what = 0; what < want.length; what++) {
            CHECK.due("ofParcel(" + parcel + ", " + what + ")", want[what], x.ofParcel(parcel, what));
        }
    }

    private static void frees(CompassRolls x, int locker, int... want) {
        for (int size = 0; size < 3; size++) {
            CHECK.due("free(" + locker + ", " + size + ")", want[size], x.free(locker, size));
        }
    }

    private static void lockers() {
        CompassRolls x = Town.built();
        for (int i = 0; i < 6; i++) {
            CHECK.due("locker", i, x.locker(i % 4, i, 9 - i, 9));
        }
        CHECK.illegalState("the seventh locker", () -> x.locker(0, 1, 1, 1));
        CHECK.illegalArgument("out of range ahead of 6", () -> x.locker(0, 1, 1, 10));
        CHECK.outOfBounds("no such place ahead of 6", () -> x.locker(4, 10, 1, 1));
        for (int i = 0; i < 6; i++) {
            frees(x, i, i, 9 - i, 9);
        }
    }

    private static void oneParcel() {
        CompassRolls x = Town.built();
        x.locker(0, 1, 1, 1);
        CHECK.due("post", 0, x.post(0, 1, 0));
        parcel(x, 0, CompassRolls.POSTED, NONE, NONE, 0);
        x.pass(DAY - 1);
        parcel(x, 0, CompassRolls.POSTED, NONE, NONE, 0);
        CHECK.due("one is posted", 1, x.count(6));
        CHECK.illegalState("take ahead of delivering", () -> x.take(0));
        x.pass(1);
        parcel(x, 0, CompassRolls.HELD, 0, 0, 0);
        frees(x, 0, 0, 1, 1);
        CHECK.due("none is posted", 0, x.count(6));
        CHECK.due("one is held", 1, x.count(7));
        x.pass(17);
        CHECK.due("take", 17, x.take(0));
        parcel(x, 0, CompassRolls.TAKEN, 0, 0, 0);
        frees(x, 0, 1, 1, 1);
        CHECK.illegalState("take again", () -> x.take(0));
        CHECK.due("none is held", 0, x.count(7));
        x.post(0, 2, 2);
        x.pass(DAY - 17);
        CHECK.due("take as it comes", 0, x.take(1));
        parcel(x, 1, CompassRolls.TAKEN, 0, 2, 0);
    }

    private static void nearestLocker() {
        CompassRolls x = Town.built();
        x.locker(3, 9, 9, 9);
        x.locker(0, 9, 9, 9);
        x.locker(2, 1, 0, 0);
        x.locker(2, 1, 0, 0);
        for (int i = 0; i < 3; i++) {
            x.post(1, 1, 0);
        }
        x.post(3, 1, 1);
        x.post(2, 1, 1);
        x.pass(DAY);
        parcel(x, 0, CompassRolls.HELD, 2, 0, 0);
        parcel(x, 1, CompassRolls.HELD, 3, 0, 0);
        parcel(x, 2, CompassRolls.HELD, 1, 0, 0);
        parcel(x, 3, CompassRolls.HELD, 0, 1, 0);
        parcel(x, 4, CompassRolls.HELD, 1, 1, 0);
    }

    private static void compartments() {
        CompassRolls x = Town.built();
        x.locker(0, 1, 1, 1);
        for (int size : new int[] {0, 0, 2, 1, 1, 0, 2}) {
            x.post(0, 1, size);
        }
        x.pass(DAY);
        parcel(x, 0, CompassRolls.HELD, 0, 0, 0);
        parcel(x, 1, CompassRolls.HELD, 0, 1, 0);
        parcel(x, 2, CompassRolls.HELD, 0, 2, 0);
        parcel(x, 3, CompassRolls.POSTED, NONE, NONE, 0);
        frees(x, 0, 0, 0, 0);
        x.take(0);
        x.pass(DAY);
        parcel(x, 3, CompassRolls.POSTED, NONE, NONE, 0);
        parcel(x, 4, CompassRolls.POSTED, NONE, NONE, 0);
        parcel(x, 5, CompassRolls.HELD, 0, 0, 0);
        CHECK.due("take out of the middle one", DAY, x.take(1));
        frees(x, 0, 0, 1, 0);
        x.pass(DAY);
        parcel(x, 3, CompassRolls.HELD, 0, 1, 0);
        parcel(x, 4, CompassRolls.POSTED);
        parcel(x, 6, CompassRolls.POSTED);
        x.locker(2, 9, 9, 0);
        x.pass(DAY);
        parcel(x, 4, CompassRolls.HELD, 0, 2, 0);
        CHECK.due("2 has been returned in time for 4", CompassRolls.RETURNED, x.ofParcel(2, 0));
        parcel(x, 6, CompassRolls.POSTED);
    }

    private static void numbersAndDays() {
        CompassRolls x = Town.built();
        x.locker(0, 0, 0, 1);
        x.name(2, 0);
        x.post(0, 1, 0);
        x.post(9, 1, 0);
        x.post(3, 1, 0);
        x.post(1, 1, 2);
        x.post(1, 1, 0);
        x.pass(DAY);
        parcel(x, 0, CompassRolls.POSTED);
        parcel(x, 1, CompassRolls.POSTED);
        parcel(x, 2, CompassRolls.POSTED);
        parcel(x, 3, CompassRolls.HELD, 0, 2, 0);
        parcel(x, 4, CompassRolls.POSTED);
        x.take(3);
        x.pass(DAY - 1);
        parcel(x, 4, CompassRolls.POSTED);
        x.pass(1);
        parcel(x, 4, CompassRolls.HELD, 0, 2, 0);
    }

    private static void sentOn() {
        CompassRolls x = Town.built();
        x.locker(0, 9, 0, 0);
        x.post(0, 1, 0);
        x.post(1, 1, 0);
        x.post(9, 1, 0);
        x.name(3, 2);
        x.post(2, 1, 0);
        x.name(1, 8);
        x.post(8, 1, 0);
        x.post(1, 1, 0);
        CHECK.due("none is sent on yet", 0, x.count(8));
        x.name(0, 1);
        x.name(2, 9);
        x.name(3, 7);
        parcel(x, 0, CompassRolls.POSTED, NONE, NONE, 0);
        x.pass(DAY);
        parcel(x, 0, CompassRolls.HELD, 0, 0, 0);
        parcel(x, 1, CompassRolls.HELD, 0, 0, 1);
        parcel(x, 2, CompassRolls.HELD, 0, 0, 1);
        parcel(x, 3, CompassRolls.HELD, 0, 0, 1);
        parcel(x, 4, CompassRolls.HELD, 0, 0, 0);
        parcel(x, 5, CompassRolls.HELD, 0, 0, 1);
        CHECK.due("four were sent on", 4, x.count(8));
        x.take(1);
        parcel(x, 1, CompassRolls.TAKEN, 0, 0, 1);
        x.pass(3000);
        x.pass(3 * DAY - 3000);
        parcel(x, 2, CompassRolls.RETURNED, 0, 0, 1);
        CHECK.due("four were sent on", 4, x.count(8));
    }

    private static void returned() {
        CompassRolls x = Town.built();
        x.locker(0, 1, 0, 0);
        x.post(0, 1, 0);
        x.post(0, 2, 0);
        x.pass(DAY);
        x.pass(3000);
        x.pass(3 * DAY - 3001);
        parcel(x, 0, CompassRolls.HELD, 0, 0, 0);
        parcel(x, 1, CompassRolls.POSTED, NONE, NONE, 0);
        x.pass(1);
        parcel(x, 0, CompassRolls.RETURNED, 0, 0, 0);
        parcel(x, 1, CompassRolls.HELD, 0, 0, 0);
        CHECK.due("one is held", 1, x.count(7));
        CHECK.illegalState("take what was returned", () -> x.take(0));
        frees(x, 0, 0, 0, 0);
        x.pass(3000);
        x.pass(3 * DAY - 3001);
        CHECK.due("take in the last minute", 3 * DAY - 1, x.take(1));
        frees(x, 0, 1, 0, 0);
        x.pass(1);
        parcel(x, 1, CompassRolls.TAKEN, 0, 0, 0);
        frees(x, 0, 1, 0, 0);
    }

    private static void limits() {
        CompassRolls x = Town.built();
        for (int i = 0; i < 40; i++) {
            CHECK.due("post", i, x.post(i % 30, 1, i % 3));
        }
        CHECK.illegalState("the 41st parcel", () -> x.post(0, 1, 0));
        CHECK.illegalArgument("no such size ahead of 40", () -> x.post(0, 1, 3));
        CHECK.illegalArgument("no such number ahead of 40", () -> x.post(0, 0, 0));
        CHECK.outOfBounds("no such name ahead of 40", () -> x.post(30, 0, 3));
        CHECK.due("40 are posted", 40, x.count(6));
    }

    private static void wrongInputs() {
        CompassRolls x = Town.built();
        x.locker(0, 1, 1, 1);
        x.post(0, 1, 0);
        for (int wrong : new int[] {-1, 4, Integer.MIN_VALUE, Integer.MAX_VALUE}) {
            CHECK.outOfBounds("locker at " + wrong, () -> x.locker(wrong, 10, 0, 0));
            CHECK.outOfBounds("what " + wrong, () -> x.ofParcel(0, wrong));
        }
        for (int wrong : new int[] {-1, 10, Integer.MIN_VALUE, Integer.MAX_VALUE}) {
            CHECK.illegalArgument("small " + wrong, () -> x.locker(0, wrong, 0, 0));
            CHECK.illegalArgument("middle " + wrong, () -> x.locker(0, 0, wrong, 0));
            CHECK.illegalArgument("big " + wrong, () -> x.locker(0, 0, 0, wrong));
        }
        for (int wrong : new int[] {-1, 30, Integer.MIN_VALUE, Integer.MAX_VALUE}) {
            CHECK.outOfBounds("post to " + wrong, () -> x.post(wrong, 0, 0));
        }
        for (int wrong : new int[] {0, 1000, Integer.MIN_VALUE, Integer.MAX_VALUE}) {
            CHECK.illegalArgument("post to number " + wrong, () -> x.post(0, wrong, 0));
        }
        for (int wrong : new int[] {-1, 3, Integer.MIN_VALUE, Integer.MAX_VALUE}) {
            CHECK.illegalArgument("post of size " + wrong, () -> x.post(0, 1, wrong));
            CHECK.outOfBounds("free of size " + wrong, () -> x.free(0, wrong));
        }
        for (int wrong : new int[] {-1, 1, Integer.MIN_VALUE, Integer.MAX_VALUE}) {
            CHECK.outOfBounds("take " + wrong, () -> x.take(wrong));
            CHECK.outOfBounds("ofParcel " + wrong, () -> x.ofParcel(wrong, 0));
            CHECK.outOfBounds("free in " + wrong, () -> x.free(wrong, 0));
        }
        CHECK.due("the second parcel", 1, x.post(0, 1, 0));
        CHECK.due("the second locker", 1, x.locker(0, 0, 0, 0));
    }
}
