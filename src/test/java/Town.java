/** What several tests begin with. */
final class Town {
    /** Places 0, 1, 2 in a row, 5 and 3 minutes apart; 3 with no way. Street i, named i, is at place i. */
    static CompassRolls built() {
        CompassRolls x = new CompassRolls();
        for (int i = 0; i < 4; i++) {
            x.place();
            x.street();
            x.span(i, 1, 99, i);
            x.name(i, i);
        }
        x.join(0, 1, 5);
        x.join(1, 2, 3);
        return x;
    }
}
