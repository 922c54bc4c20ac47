/** The sentences of promises 8 to 10: places. */
final class PlacesSentences extends Sentences {
    private static final int[][] STEPS = {
        {0, 1, 2, 1, 2, 3, 2, 3, 4},
        {1, 0, 1, 2, 1, 2, 3, 2, 3},
        {2, 1, 0, 3, 2, 1, 4, 3, 2},
        {1, 2, 3, 0, 1, 2, 1, 2, 3},
        {2, 1, 2, 1, 0, 1, 2, 1, 2},
        {3, 2, 1, 2, 1, 0, 3, 2, 1},
        {2, 3, 4, 1, 2, 3, 0, 1, 2},
        {3, 2, 3, 2, 1, 2, 1, 0, 1},
        {4, 3, 2, 3, 2, 1, 2, 1, 0},
    };

    PlacesSentences(Document document) {
        super(document);
    }

    @Override
    void testAll() {
        promise8HowManyGroups();
        promise9InTheSameGroup();
        promise9IsNot0To8();
        promise10HowManySteps();
        promise10IsNot0To8();
    }

    private void promise8HowManyGroups() {
        sentence(8, "Returns how many groups of places there are.");
        SignMasons x = new SignMasons();
        due("groups() of a new object", x.groups(), 9);
        x.join(4, 4);
        due("groups() after join(4, 4)", x.groups(), 9);
        for (int place = 1; place < 9; place++) {
            x.join(place, place - 1);
            due("groups() after " + place + " joined places", x.groups(), 9 - place);
            x.join(0, place);
            due("groups() after joining a group with itself", x.groups(), 9 - place);
        }
        SignMasons pairs = new SignMasons();
        pairs.join(0, 1);
        pairs.join(2, 3);
        pairs.join(4, 5);
        pairs.join(6, 7);
        due("groups() of four pairs and one", pairs.groups(), 5);
        pairs.join(1, 2);
        pairs.join(5, 6);
        due("groups() of two fours and one", pairs.groups(), 3);
        unchanged(Sentences::rich, "groups()", SignMasons::groups);
        unchanged(SignMasons::new, "groups()", SignMasons::groups);
    }

    private void promise9InTheSameGroup() {
        sentence(9, "Returns whether both are in the same group.");
        SignMasons x = new SignMasons();
        for (int place = 0; place < 9; place++) {
            due("areJoined(" + place + ", " + place + "), a place with itself", x.areJoined(place, place), true);
        }
        due("areJoined(0, 1), neighbours that are not joined", x.areJoined(0, 1), false);
        x.join(0, 8);
        x.join(8, 3);
        due("areJoined(0, 3), by way of 8", x.areJoined(0, 3), true);
        due("areJoined(3, 0), by way of 8", x.areJoined(3, 0), true);
        due("areJoined(8, 3)", x.areJoined(8, 3), true);
        due("areJoined(8, 7)", x.areJoined(8, 7), false);
        x.join(7, 6);
        due("areJoined(6, 3), of two groups", x.areJoined(6, 3), false);
        x.join(0, 6);
        due("areJoined(7, 3), of two groups joined", x.areJoined(7, 3), true);
        unchanged(Sentences::rich, "areJoined(1, 2)", y -> y.areJoined(1, 2));
        unchanged(Sentences::rich, "areJoined(8, 0)", y -> y.areJoined(8, 0));
    }

    private void promise9IsNot0To8() {
        sentence(9, "Throws IndexOutOfBoundsException if one of them is not 0 to 8");
        refusedOutside(8, Sentences::rich, "areJoined() of the first", INDEX, (x, number) -> x.areJoined(number, 0));
        refusedOutside(8, Sentences::rich, "areJoined() of the second", INDEX, (x, number) -> x.areJoined(0, number));
        refusedOutside(8, SignMasons::new, "areJoined() of both", INDEX, (x, number) -> x.areJoined(number, number));
    }

    private void promise10HowManySteps() {
        sentence(10, "Returns how many steps there are between both.");
        SignMasons x = new SignMasons();
        SignMasons joined = new SignMasons();
        joined.join(2, 6);
        joined.join(6, 1);
        SignMasons one = new SignMasons();
        for (int place = 0; place < 8; place++) {
            one.join(place, 8);
        }
        for (int left = 0; left < 9; left++) {
            for (int right = 0; right < 9; right++) {
                String call = "steps(" + left + ", " + right + ")";
                boolean same = (left == 1 || left == 2 || left == 6) && (right == 1 || right == 2 || right == 6);
                due(call, x.steps(left, right), STEPS[left][right]);
                due(call + " with 1, 2 and 6 joined", joined.steps(left, right), same ? 0 : STEPS[left][right]);
                due(call + " with all joined", one.steps(left, right), 0);
            }
        }
        unchanged(Sentences::rich, "steps(0, 7)", y -> y.steps(0, 7));
        unchanged(Sentences::rich, "steps(0, 8)", y -> y.steps(0, 8));
    }

    private void promise10IsNot0To8() {
        sentence(10, "Throws IndexOutOfBoundsException if one of them is not 0 to 8");
        refusedOutside(8, Sentences::rich, "steps() of the first", INDEX, (x, number) -> x.steps(number, 0));
        refusedOutside(8, Sentences::rich, "steps() of the second", INDEX, (x, number) -> x.steps(0, number));
        refusedOutside(8, SignMasons::new, "steps() of both", INDEX, (x, number) -> x.steps(number, number));
    }
}
