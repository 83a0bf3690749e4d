/** Promises 22 and 23: minutes that go by, in their order, and what is counted. */
final class PassTest {
    private static final Check CHECK = new Check("PassTest");
    private static final int DAY = 1440;

    public static void main(String[] args) {
        minutes();
        lastMinute();
        oneByOne();
        freeAheadOfSending();
        wrongInputs();
        CHECK.end();
    }

    private static void minutes() {
        CompassRolls x = new CompassRolls();
        CHECK.due("pass(1)", 1, x.pass(1));
        CHECK.due("pass(3000)", 3001, x.pass(3000));
        CHECK.due("pass(2)", 3003, x.pass(2));
    }

    private static void lastMinute() {
        CompassRolls x = new CompassRolls();
        for (int i = 1; i <= 33; i++) {
            CHECK.due("pass(3000)", 3000 * i, x.pass(3000));
        }
        CHECK.illegalState("above the last minute", () -> x.pass(1001));
        CHECK.illegalState("far above the last minute", () -> x.pass(3000));
        CHECK.illegalArgument("out of range ahead of above", () -> x.pass(3001));
        CHECK.due("to the last minute", 100000, x.pass(1000));
        CHECK.illegalState("behind the last minute", () -> x.pass(1));
        CHECK.illegalArgument("out of range behind the last minute", () -> x.pass(0));
    }

    private static CompassRolls busy() {
        CompassRolls x = new CompassRolls();
        for (int i = 0; i < 3; i++) {
            x.place();
            x.street();
            x.span(i, 1, 99, i);
            x.name(i, i);
        }
        x.join(0, 1, 50);
        x.join(1, 2, 60);
        x.car(0);
        x.car(2);
        x.locker(1, 2, 0, 1);
        for (int i = 0; i < 40; i++) {
            x.call((i * i + 3) % 3, 1 + i);
            x.post((i * 7 + 1) % 4, 1 + i, i % 3);
        }
        return x;
    }

    /** Many minutes at once are as many minutes one by one; an object has 512 calls, so each asks a part. */
    private static void oneByOne() {
        for (int from = 0; from < 40; from += 20) {
            CompassRolls all = busy();
            CompassRolls each = busy();
            all.pass(1300);
            each.pass(1300);
            all.pass(170);
            for (int i = 0; i < 170; i++) {
                each.pass(1);
            }
            for (int what = 0; what <= 8; what++) {
                CHECK.due("count(" + what + ")", all.count(what), each.count(what));
            }
            for (int i = from; i < from + 20; i++) {
                for (int what = 0; what <= 5; what++) {
                    CHECK.due("ofCall(" + i + ", " + what + ")", all.ofCall(i, what), each.ofCall(i, what));
                }
                for (int what = 0; what <= 3; what++) {
                    CHECK.due("ofParcel(" + i + ", " + what + ")", all.ofParcel(i, what), each.ofParcel(i, what));
                }
            }
        }
        CompassRolls x = busy();
        x.pass(3000);
        CHECK.due("streets", 3, x.count(0));
        CHECK.due("namings", 3, x.count(1));
        CHECK.due("free cars", 2, x.count(2));
        CHECK.due("held", 3, x.count(7));
        CHECK.due("posted", 37, x.count(6));
        CHECK.due("done", 40, x.count(5));
    }

    private static void freeAheadOfSending() {
        CompassRolls x = new CompassRolls();
        x.place();
        x.street();
        x.span(0, 1, 9, 0);
        x.name(0, 0);
        x.car(0);
        x.call(0, 1);
        x.call(0, 2);
        x.call(0, 3);
        x.pass(9);
        CHECK.due("there still", CompassRolls.SENT, x.ofCall(0, 0));
        CHECK.due("waits still", CompassRolls.WAITING, x.ofCall(1, 0));
        x.pass(1);
        CHECK.due("done", CompassRolls.DONE, x.ofCall(0, 0));
        CHECK.due("sent in that minute", CompassRolls.SENT, x.ofCall(1, 0));
        CHECK.due("there in that minute", 10, x.ofCall(1, 4));
        CHECK.due("one waits", 1, x.count(3));
        x.pass(DAY - 10);
        CHECK.due("all are done", 3, x.count(5));
        CHECK.due("none waits", 0, x.count(3));
        CHECK.due("the car is free", 1, x.count(2));
    }

    private static void wrongInputs() {
        CompassRolls x = new CompassRolls();
        for (int wrong : new int[] {0, -1, 3001, Integer.MIN_VALUE, Integer.MAX_VALUE}) {
            CHECK.illegalArgument("pass(" + wrong + ")", () -> x.pass(wrong));
        }
        for (int wrong : new int[] {-1, 9, Integer.MIN_VALUE, Integer.MAX_VALUE}) {
            CHECK.illegalArgument("count(" + wrong + ")", () -> x.count(wrong));
        }
        CHECK.due("no minute went by", 1, x.pass(1));
    }
}
