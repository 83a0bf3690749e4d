/** The edges of promises 22 pass and 23 count, a sentence each. */
final class MinuteEdgesTest {
    private static final Check CHECK = new Check("MinuteEdgesTest");
    private static final int DAY = Town.DAY;

    public static void main(String[] args) {
        passRange();
        toTheLastMinute();
        aboveTheLastMinute();
        passThrowsInOrder();
        lastDay();
        daysInOnePass();
        freeAheadOfSending();
        freedCarAheadOfAFartherOne();
        namesInAMinute();
        countRange();
        countStreets();
        countNamings();
        countFreeCars();
        countWaitingCalls();
        countDoubts();
        countDoneCalls();
        countPostedAndHeld();
        countSentOn();
        CHECK.end();
    }

    private static void passRange() {
        CompassRolls x = new CompassRolls();
        CHECK.due("pass(1)", 1, x.pass(1));
        CHECK.due("pass(3000)", 3001, x.pass(3000));
        for (int minutes : Check.beyond(1, 3000)) {
            CHECK.illegalArgument("pass(" + minutes + ")", () -> x.pass(minutes));
        }
        CHECK.due("refused ones let none go by", 3002, x.pass(1));
    }

    private static void toTheLastMinute() {
        CompassRolls x = new CompassRolls();
        Town.until(x, 0, Town.LAST_MINUTE - 1);
        CHECK.due("the last minute", Town.LAST_MINUTE, x.pass(1));
        CompassRolls y = new CompassRolls();
        Town.until(y, 0, Town.LAST_MINUTE - 3000);
        CHECK.due("with the longest pass", Town.LAST_MINUTE, y.pass(3000));
    }

    private static void aboveTheLastMinute() {
        CompassRolls x = new CompassRolls();
        Town.until(x, 0, Town.LAST_MINUTE - 2);
        CHECK.illegalState("one above", () -> x.pass(3));
        CHECK.illegalState("far above", () -> x.pass(3000));
        CHECK.due("refused ones let none go by", Town.LAST_MINUTE - 1, x.pass(1));
        CHECK.illegalState("one above", () -> x.pass(2));
        CHECK.due("the last one", Town.LAST_MINUTE, x.pass(1));
        CHECK.illegalState("none is left", () -> x.pass(1));
        CHECK.illegalState("none is left", () -> x.pass(3000));
    }

    private static void passThrowsInOrder() {
        CompassRolls x = new CompassRolls();
        Town.until(x, 0, Town.LAST_MINUTE);
        for (int minutes : Check.beyond(1, 3000)) {
            CHECK.illegalArgument("pass(" + minutes + ") in the last minute", () -> x.pass(minutes));
        }
        CompassRolls y = new CompassRolls();
        Town.until(y, 0, Town.LAST_MINUTE - 3000);
        CHECK.illegalArgument("pass(3001) to one above", () -> y.pass(3001));
    }

    /** Day 69 begins in the minute 99360; there is no other one. */
    private static void lastDay() {
        CompassRolls x = Town.built();
        x.locker(0, 1, 0, 0);
        Town.until(x, 0, 69 * DAY - 1);
        x.post(0, 1, 0);
        CHECK.due("not yet", CompassRolls.POSTED, x.ofParcel(0, 0));
        x.pass(1);
        CHECK.due("as it begins", CompassRolls.HELD, x.ofParcel(0, 0));
        x.post(0, 1, 0);
        CHECK.due("to the last minute", Town.LAST_MINUTE, x.pass(640));
        CHECK.due("the rest of the day", 640, x.take(0));
        CHECK.due("no day begins", CompassRolls.POSTED, x.ofParcel(1, 0));
    }

    /** A pass of 3000 minutes may have three days that begin: each returns and delivers. */
    private static void daysInOnePass() {
        CompassRolls x = Town.built();
        x.locker(0, 1, 0, 0);
        x.post(0, 1, 0);
        x.post(0, 1, 0);
        x.pass(3 * DAY - 1 - 3000);
        x.pass(3000);
        CHECK.due("the first is held", CompassRolls.HELD, x.ofParcel(0, 0));
        x.pass(3000);
        CHECK.due("it was returned as day 4 began", CompassRolls.RETURNED, x.ofParcel(0, 0));
        CHECK.due("the other one came then", 3 * DAY - 1 + 3000 - 4 * DAY, x.take(1));
        CompassRolls y = Town.built();
        y.locker(0, 1, 0, 0);
        y.pass(DAY - 1);
        y.post(0, 1, 0);
        y.pass(3000);
        CHECK.due("as day 1 began", 2999, y.take(0));
    }

    private static void freeAheadOfSending() {
        CompassRolls x = Town.streets(1);
        x.name(0, 0);
        x.car(0);
        for (int i = 0; i < 3; i++) {
            x.call(0, 1);
        }
        x.pass(9);
        CHECK.due("one waits a minute ahead", CompassRolls.WAITING, x.ofCall(1, 0));
        x.pass(1);
        CHECK.due("sent as the car is free again", 10, x.ofCall(1, 4));
        CHECK.due("which is not free then", 0, x.ofCar(0, 0));
        x.pass(10);
        CHECK.due("sent as the car is free again", 20, x.ofCall(2, 4));
    }

    /** A car that is free again in a minute is sent in it, though a farther one was free ahead of it. */
    private static void freedCarAheadOfAFartherOne() {
        CompassRolls x = Town.built();
        x.car(0);
        x.call(0, 1);
        x.call(0, 2);
        x.pass(9);
        x.car(1);
        x.pass(1);
        CHECK.due("the nearer car", 0, x.ofCall(1, 3));
        CHECK.due("it is there at once", 10, x.ofCall(1, 4));
        CHECK.due("the farther one stays free", 1, x.ofCar(1, 0));
        CompassRolls y = Town.built();
        y.car(0);
        y.call(0, 1);
        y.call(0, 2);
        y.pass(8);
        y.car(1);
        y.pass(1);
        CHECK.due("a minute sooner it is the farther one", 1, y.ofCall(1, 3));
        CHECK.due("which is there later", 14, y.ofCall(1, 4));
    }

    /** What a parcel's name leads to counts as the day begins, whatever was told in the minute ahead. */
    private static void namesInAMinute() {
        CompassRolls x = Town.built();
        x.locker(0, 9, 0, 0);
        x.locker(2, 9, 0, 0);
        x.post(0, 1, 0);
        x.pass(DAY - 1);
        x.name(0, 9);
        x.name(2, 0);
        x.pass(1);
        x.name(2, 8);
        CHECK.due("to the street of that minute", 1, x.ofParcel(0, 1));
        CHECK.due("sent on", 1, x.ofParcel(0, 3));
    }

    private static void countRange() {
        CompassRolls x = new CompassRolls();
        CHECK.due("count(0)", 0, x.count(0));
        CHECK.due("count(8)", 0, x.count(8));
        for (int what : Check.beyond(0, 8)) {
            CHECK.illegalArgument("count(" + what + ")", () -> x.count(what));
        }
    }

    /** Each kind of count as the only one that is not 0, so that no two are taken for each other. */
    private static void counts(CompassRolls x, String told, int... want) {
        for (int what = 0; what <= 8; what++) {
            CHECK.due("count(" + what + ") " + told, want[what], x.count(what));
        }
    }

    private static void countStreets() {
        CompassRolls x = Town.places(12);
        for (int i = 0; i < 12; i++) {
            counts(x, "of streets", i, 0, 0, 0, 0, 0, 0, 0, 0);
            x.street();
        }
        counts(x, "of streets", 12, 0, 0, 0, 0, 0, 0, 0, 0);
    }

    private static void countNamings() {
        CompassRolls x = new CompassRolls();
        x.street();
        for (int i = 0; i < 100; i++) {
            CHECK.due("count(1)", i, x.count(1));
            x.name(0, i % 2);
        }
        counts(x, "of namings", 1, 100, 0, 0, 0, 0, 0, 0, 0);
        x.same(0, 1);
        counts(x, "of namings, not of names that are the same", 1, 100, 0, 0, 0, 0, 0, 0, 0);
    }

    private static void countFreeCars() {
        CompassRolls x = Town.streets(1);
        x.name(0, 0);
        for (int i = 0; i < 6; i++) {
            counts(x, "of cars", 1, 1, i, 0, 0, 0, 0, 0, 0);
            x.car(0);
        }
        for (int i = 0; i < 6; i++) {
            counts(x, "of cars that are left", 1, 1, 6 - i, 0, 0, 0, 0, 0, 0);
            x.call(0, 1);
        }
        counts(x, "as none is free", 1, 1, 0, 0, 0, 0, 0, 0, 0);
        x.pass(10);
        counts(x, "as all are free again", 1, 1, 6, 0, 0, 6, 0, 0, 0);
    }

    private static void countWaitingCalls() {
        CompassRolls x = Town.streets(1);
        x.name(0, 0);
        for (int i = 0; i < 40; i++) {
            CHECK.due("count(3)", i, x.count(3));
            x.call(0, 1);
        }
        counts(x, "of calls", 1, 1, 0, 40, 0, 0, 0, 0, 0);
        x.car(0);
        x.pass(1);
        counts(x, "as one is sent", 1, 1, 0, 39, 0, 0, 0, 0, 0);
    }

    private static void countDoubts() {
        CompassRolls x = Town.streets(2);
        x.name(0, 0);
        x.name(1, 0);
        for (int i = 0; i < 40; i++) {
            CHECK.due("count(4)", i, x.count(4));
            x.call(0, 1);
        }
        counts(x, "of doubts", 2, 2, 0, 0, 40, 0, 0, 0, 0);
        x.clear(20, 1);
        counts(x, "as one is cleared", 2, 2, 0, 1, 39, 0, 0, 0, 0);
        CompassRolls y = Town.streets(1);
        y.call(0, 1);
        counts(y, "of a lost call", 1, 0, 0, 0, 0, 0, 0, 0, 0);
    }

    private static void countDoneCalls() {
        CompassRolls x = Town.streets(1);
        x.name(0, 0);
        x.car(0);
        for (int i = 0; i < 40; i++) {
            x.call(0, 1);
        }
        for (int i = 1; i <= 40; i++) {
            x.pass(9);
            counts(x, "a minute ahead", 1, 1, 0, 40 - i, 0, i - 1, 0, 0, 0);
            x.pass(1);
        }
        counts(x, "as all are done", 1, 1, 1, 0, 0, 40, 0, 0, 0);
    }

    private static void countPostedAndHeld() {
        CompassRolls x = Town.streets(1);
        x.name(0, 0);
        for (int i = 0; i < 6; i++) {
            x.locker(0, 9, 0, 0);
        }
        for (int i = 0; i < 40; i++) {
            CHECK.due("count(6)", i, x.count(6));
            x.post(0, 1, 0);
        }
        counts(x, "of parcels", 1, 1, 0, 0, 0, 0, 40, 0, 0);
        x.pass(DAY);
        counts(x, "as all are held", 1, 1, 0, 0, 0, 0, 0, 40, 0);
        x.take(39);
        counts(x, "as one is taken", 1, 1, 0, 0, 0, 0, 0, 39, 0);
        x.pass(2 * DAY);
        x.pass(DAY);
        counts(x, "as the others are returned", 1, 1, 0, 0, 0, 0, 0, 0, 0);
    }

    private static void countSentOn() {
        CompassRolls x = Town.streets(1);
        for (int i = 0; i < 6; i++) {
            x.locker(0, 9, 0, 0);
        }
        for (int i = 0; i < 40; i++) {
            x.post(0, 1, 0);
        }
        x.name(0, 0);
        counts(x, "as none is sent on yet", 1, 1, 0, 0, 0, 0, 40, 0, 0);
        x.pass(DAY);
        counts(x, "as all are sent on", 1, 1, 0, 0, 0, 0, 0, 40, 40);
        x.take(0);
        x.pass(2 * DAY);
        x.pass(DAY);
        counts(x, "as they are taken and returned", 1, 1, 0, 0, 0, 0, 0, 0, 40);
    }
}
