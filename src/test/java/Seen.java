/** What can be asked of an object, as one text; an exception is told by its name. */
final class Seen {
    private static final int[] NUMBERS = {1, 15, 600, 999};

    private final CompassRolls x;
    private final StringBuilder text = new StringBuilder();

    private Seen(CompassRolls x) {
        this.x = x;
    }

    static String answer(Check.Asked asked) {
        try {
            return Long.toString(asked.answer());
        } catch (RuntimeException e) {
            return e.getClass().getName();
        }
    }

    /** Adds an answer, and tells whether it was one. */
    private boolean add(Check.Asked asked) {
        String answer = answer(asked);
        text.append(answer).append(' ');
        return !answer.endsWith("Exception");
    }

    private void counts() {
        for (int i = 0; i <= 8; i++) {
            int what = i;
            add(() -> x.count(what));
        }
        text.append('\n');
    }

    static String places(CompassRolls x) {
        Seen seen = new Seen(x);
        seen.counts();
        boolean there = true;
        for (int i = 0; i <= 12 && there; i++) {
            int place = i;
            for (int j = 0; j < i; j++) {
                int other = j;
                seen.add(() -> x.way(other, place));
            }
            there = seen.add(() -> x.way(place, place));
        }
        there = true;
        for (int i = 0; i <= 12 && there; i++) {
            for (int number : NUMBERS) {
                int street = i;
                there = seen.add(() -> x.placeOf(street, number));
            }
        }
        return seen.text.toString();
    }

    static String names(CompassRolls x) {
        Seen seen = new Seen(x);
        seen.counts();
        for (int i = 0; i < 30; i++) {
            int name = i;
            for (int number : NUMBERS) {
                seen.add(() -> x.leads(name, number));
            }
            seen.add(() -> x.leadsAnew(name, 1));
        }
        return seen.text.toString();
    }

    static String calls(CompassRolls x) {
        Seen seen = new Seen(x);
        seen.counts();
        boolean there = true;
        for (int i = 0; i <= 40 && there; i++) {
            for (int j = 0; j <= 5; j++) {
                int call = i;
                int what = j;
                there = seen.add(() -> x.ofCall(call, what));
            }
        }
        there = true;
        for (int i = 0; i <= 6 && there; i++) {
            for (int j = 0; j <= 2; j++) {
                int car = i;
                int what = j;
                there = seen.add(() -> x.ofCar(car, what));
            }
        }
        return seen.text.toString();
    }

    static String parcels(CompassRolls x) {
        Seen seen = new Seen(x);
        seen.counts();
        boolean there = true;
        for (int i = 0; i <= 40 && there; i++) {
            for (int j = 0; j <= 3; j++) {
                int parcel = i;
                int what = j;
                there = seen.add(() -> x.ofParcel(parcel, what));
            }
        }
        there = true;
        for (int i = 0; i <= 6 && there; i++) {
            for (int j = 0; j <= 2; j++) {
                int locker = i;
                int size = j;
                there = seen.add(() -> x.free(locker, size));
            }
        }
        return seen.text.toString();
    }

    /** Tells one more of everything, and lets a day go by: what was hidden inside comes out. */
    static String later(CompassRolls x) {
        Seen seen = new Seen(x);
        seen.add(() -> x.span(0, 600, 610, 0));
        seen.add(() -> x.name(0, 13));
        seen.add(() -> x.same(13, 14) ? 1 : 0);
        seen.add(() -> x.call(14, 605));
        seen.add(() -> x.post(14, 605, 0));
        seen.add(() -> x.join(0, 1, 2));
        seen.add(x::place);
        seen.add(x::street);
        seen.add(() -> x.name(1, 14));
        seen.add(() -> x.car(0));
        seen.add(() -> x.locker(1, 1, 1, 1));
        seen.add(() -> x.pass(1));
        seen.add(() -> x.clear(3, 1));
        seen.add(() -> x.take(2));
        seen.add(() -> x.pass(1440));
        return seen.text.toString();
    }
}
