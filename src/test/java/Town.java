/** What several tests begin with. */
final class Town {
    static final int DAY = 1440;
    static final int LAST_MINUTE = 100000;

    /** Places 0, 1, 2 in a row, 5 and 3 minutes apart; 3 with no way. Street i, named i, is at place i. */
    static CompassRolls built() {
        CompassRolls x = new CompassRolls();
        for (int i = 0; i < 4; i++) {
            x.place();
            x.street();
            x.span(i, 1, 99, i);
            x.name(i, i);
        }
        x.join(0, 1, 5);
        x.join(1, 2, 3);
        return x;
    }

    /** That many places and no ways. */
    static CompassRolls places(int places) {
        CompassRolls x = new CompassRolls();
        for (int i = 0; i < places; i++) {
            x.place();
        }
        return x;
    }

    /** That many streets with all numbers at place 0, the only one; no names. */
    static CompassRolls streets(int streets) {
        CompassRolls x = places(1);
        for (int i = 0; i < streets; i++) {
            x.street();
            x.span(i, 1, 999, 0);
        }
        return x;
    }

    /** Lets minutes go by until that one. */
    static void until(CompassRolls x, int from, int minute) {
        for (int now = from; now < minute; now += 3000) {
            x.pass(Math.min(3000, minute - now));
        }
    }
}
