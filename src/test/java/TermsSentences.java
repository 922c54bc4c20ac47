import java.lang.reflect.Method;
import java.lang.reflect.Modifier;

/** The sentences of "Terms", and that of the 512 calls. */
final class TermsSentences extends Sentences {
    private static final int[] FINGERS = {0, 1, 1, 2, 1, 2, 2, 3, 1, 2, 2, 3, 2, 3, 3, 4};
    private static final int[] GROUP_AT = {0, 0, 0, 3, 3, 0, 6, 7, 0};

    TermsSentences(Document document) {
        super(document);
    }

    @Override
    void testAll() {
        allNumbersAreWhole();
        aHandshapeIs0To15();
        aThumbIs0To3();
        aPlaceIs0To8();
        aMovementIs0To3();
        aMeaningIs0To29();
        eachPlaceInAGroupOfItsOwn();
        groupsBecomeOne();
        noStepsInTheSameGroup();
        stepsOfRowsAndColumns();
        howFarApart();
        alikeIf0Apart();
        atMost4Lodges();
        atMost16Signs();
        readingTheFewestApart();
        readingJustOneAnd3Apart();
        whatThrowsChangesNothing();
        firstNamedIsThrown();
        calls512();
    }

    private void allNumbersAreWhole() {
        terms("All numbers are whole.");
        for (Method method : SignMasons.class.getDeclaredMethods()) {
            if (Modifier.isPublic(method.getModifiers())) {
                for (Class<?> type : method.getParameterTypes()) {
                    due("parameters of " + method.getName() + " are int", type == int.class, true);
                }
            }
        }
    }

    private void aHandshapeIs0To15() {
        terms("Signs. A handshape is a number of 0 to 15: four fingers, each stretched or bent, "
                + "as the bits of the number.");
        SignMasons x = full();
        for (int one = 0; one < 16; one++) {
            due("shapeOf(0, " + one + ")", x.shapeOf(0, one), one);
            for (int other = 0; other < 16; other++) {
                due("apart(0, " + one + ", " + other + ")", x.apart(0, one, other), FINGERS[one ^ other]);
            }
        }
    }

    private void aThumbIs0To3() {
        terms("A thumb is 0 to 3.");
        SignMasons x = lodges(1);
        for (int thumb = 0; thumb < 4; thumb++) {
            x.addSign(0, 9, thumb, 4, 2, thumb);
            due("thumbOf(0, " + thumb + ")", x.thumbOf(0, thumb), thumb);
        }
    }

    private void aPlaceIs0To8() {
        terms("A place is 0 to 8, in a square of three rows of three: "
                + "the place p lies in the row p / 3 (cut towards 0), in the column that is left.");
        SignMasons x = lodges(1);
        for (int place = 0; place < 9; place++) {
            x.addSign(0, 9, 1, place, 2, place);
            due("placeOf(0, " + place + ")", x.placeOf(0, place), place);
        }
        due("steps(2, 3), from the end of a row to the start of the next", x.steps(2, 3), 3);
        due("steps(5, 6), from the end of a row to the start of the next", x.steps(5, 6), 3);
        due("steps(0, 2), along a row", x.steps(0, 2), 2);
        due("steps(2, 8), along a column", x.steps(2, 8), 2);
    }

    private void aMovementIs0To3() {
        terms("A movement is 0 to 3.");
        for (int movement = 0; movement < 4; movement++) {
            SignMasons x = lodges(1);
            x.addSign(0, 0, 0, 0, movement, 5);
            for (int shown = 0; shown < 4; shown++) {
                // Two fingers more are read just if the movement is the same.
                due("two fingers and movement " + shown + " where it is " + movement,
                        x.readShown(3, 0, 0, shown, 0), shown == movement ? 5 : -1);
            }
        }
    }

    private void aMeaningIs0To29() {
        terms("A meaning is 0 to 29.");
        SignMasons x = lodges(2);
        for (int meaning = 0; meaning < 30; meaning++) {
            int sign = x.addSign(meaning % 2, 1, 1, 1, 1, meaning);
            due("meaningOf() of the sign for " + meaning, x.meaningOf(meaning % 2, sign), meaning);
        }
    }

    private void eachPlaceInAGroupOfItsOwn() {
        terms("Joined places. Places are in groups; each is in one of its own, at first.");
        SignMasons x = new SignMasons();
        due("groups()", x.groups(), 9);
        for (int one = 0; one < 9; one++) {
            for (int other = 0; other < 9; other++) {
                due("areJoined(" + one + ", " + other + ")", x.areJoined(one, other), one == other);
            }
        }
    }

    private void groupsBecomeOne() {
        terms("As two places are joined, their groups are one group from then on.");
        for (int[] ends : new int[][] {{1, 2}, {2, 1}, {0, 5}, {5, 0}, {0, 2}, {1, 5}}) {
            SignMasons x = new SignMasons();
            x.join(0, 1);
            x.join(2, 5);
            x.join(5, 8);
            x.join(3, 4);
            x.join(ends[0], ends[1]);
            String call = "after join(" + ends[0] + ", " + ends[1] + ") ";
            for (int one = 0; one < 9; one++) {
                for (int other = 0; other < 9; other++) {
                    due(call + "areJoined(" + one + ", " + other + ")", x.areJoined(one, other),
                            GROUP_AT[one] == GROUP_AT[other]);
                }
            }
            due(call + "groups()", x.groups(), 4);
        }
    }

    private void noStepsInTheSameGroup() {
        terms("Steps between two places: 0, if they are in the same group;");
        SignMasons x = new SignMasons();
        x.join(0, 8);
        x.join(8, 2);
        for (int one : new int[] {0, 8, 2}) {
            for (int other : new int[] {0, 8, 2}) {
                due("steps(" + one + ", " + other + ")", x.steps(one, other), 0);
            }
        }
    }

    private void stepsOfRowsAndColumns() {
        terms("otherwise as many as their rows and their columns differ, added.");
        SignMasons x = new SignMasons();
        due("steps(0, 8), the most there are", x.steps(0, 8), 4);
        due("steps(2, 6), the most there are", x.steps(2, 6), 4);
        due("steps(0, 1), the fewest", x.steps(0, 1), 1);
        due("steps(0, 3), the fewest", x.steps(0, 3), 1);
        due("steps(4, 8)", x.steps(4, 8), 2);
        due("steps(3, 2)", x.steps(3, 2), 3);
        x.join(0, 1);
        x.join(7, 8);
        due("steps(0, 8) past joined places, which do not shorten them", x.steps(0, 8), 4);
        due("steps(1, 7) past joined places, which do not shorten them", x.steps(1, 7), 2);
    }

    private void howFarApart() {
        terms("Two signs are as far apart as fingers of their handshapes differ, and 1 more if their thumbs differ, "
                + "and as many as there are steps between their places, and 2 more if their movements differ.");
        for (int shape : new int[] {0, 1, 15}) {
            for (int thumb = 0; thumb < 4; thumb++) {
                for (int place : new int[] {0, 2, 8}) {
                    for (int movement = 0; movement < 4; movement++) {
                        SignMasons x = lodges(1);
                        x.addSign(0, 0, 1, 0, 2, 0);
                        x.addSign(0, shape, thumb, place, movement, 1);
                        int fingers = shape == 0 ? 0 : shape == 1 ? 1 : 4;
                        int steps = place == 0 ? 0 : place == 2 ? 2 : 4;
                        int want = fingers + (thumb == 1 ? 0 : 1) + steps + (movement == 2 ? 0 : 2);
                        String sign = shape + ", " + thumb + ", " + place + ", " + movement;
                        due("apart() of 0, 1, 0, 2 and " + sign, x.apart(0, 0, 1), want);
                        due("apart() of " + sign + " and 0, 1, 0, 2", x.apart(0, 1, 0), want);
                    }
                }
            }
        }
    }

    private void alikeIf0Apart() {
        terms("They are alike, if they are 0 apart.");
        int[][] looks = {{6, 1, 4, 2}, {7, 1, 4, 2}, {6, 2, 4, 2}, {6, 1, 5, 2}, {6, 1, 4, 3}, {6, 1, 3, 2}};
        int[] pairs = {1, 0, 0, 0, 0, 1};
        for (int i = 0; i < looks.length; i++) {
            SignMasons x = lodges(1);
            x.join(3, 4);
            x.addSign(0, 6, 1, 4, 2, 0);
            x.addSign(0, looks[i][0], looks[i][1], looks[i][2], looks[i][3], 1);
            due("alikePairs(0), look " + i, x.alikePairs(0), pairs[i]);
            due("apart(0, 0, 1) is 0, look " + i, x.apart(0, 0, 1) == 0, pairs[i] == 1);
        }
    }

    private void atMost4Lodges() {
        terms("Lodges. At most 4, numbered from 0;");
        SignMasons x = new SignMasons();
        for (int lodge = 0; lodge < 4; lodge++) {
            due("addLodge()", x.addLodge(), lodge);
        }
        refused(() -> lodges(4), "a fifth addLodge()", STATE, SignMasons::addLodge);
    }

    private void atMost16Signs() {
        terms("each has a book of at most 16 signs, numbered from 0, with one sign at most for each meaning.");
        SignMasons x = lodges(4);
        for (int lodge = 0; lodge < 4; lodge++) {
            for (int sign = 0; sign < 16; sign++) {
                due("addSign() into " + lodge, x.addSign(lodge, sign, 0, 0, 0, 29 - sign), sign);
            }
            due("signsOf(" + lodge + ")", x.signsOf(lodge), 16);
        }
        refused(Sentences::full, "a 17th addSign()", STATE, y -> y.addSign(0, 0, 0, 0, 0, 16));
        refused(() -> peopled(1), "a second one for 1", STATE, y -> y.addSign(0, 9, 3, 4, 3, 1));
    }

    private void readingTheFewestApart() {
        terms("Reading a sign in a lodge: of the signs of its book those that are the fewest apart from it;");
        SignMasons x = lodges(1);
        due("read with an empty book", x.readShown(0, 0, 0, 0, 0), -1);
        x.addSign(0, 7, 0, 0, 0, 10);
        due("one that is 3 apart", x.readShown(0, 0, 0, 0, 0), 10);
        x.addSign(0, 3, 0, 0, 0, 11);
        due("one behind it that is 2 apart", x.readShown(0, 0, 0, 0, 0), 11);
        x.addSign(0, 11, 0, 0, 0, 12);
        due("one behind these that is 3 apart", x.readShown(0, 0, 0, 0, 0), 11);
        x.addSign(0, 0, 0, 1, 0, 13);
        due("one behind these that is 1 apart", x.readShown(0, 0, 0, 0, 0), 13);
        x.addSign(0, 0, 0, 0, 0, 14);
        due("one behind these that is 0 apart", x.readShown(0, 0, 0, 0, 0), 14);
    }

    private void readingJustOneAnd3Apart() {
        terms("if there is just one of these, and it is 3 apart at the most, it is read as the meaning of this one; "
                + "otherwise it is not read.");
        int[] shapes = {0, 1, 3, 7, 15};
        for (int fingers = 0; fingers <= 4; fingers++) {
            SignMasons x = lodges(1);
            x.addSign(0, shapes[fingers], 0, 0, 0, 29);
            due("just one, " + fingers + " apart", x.readShown(0, 0, 0, 0, 0), fingers <= 3 ? 29 : -1);
            x.addSign(0, shapes[fingers], 0, 0, 0, 28);
            due("two, both " + fingers + " apart", x.readShown(0, 0, 0, 0, 0), -1);
            x.addSign(0, shapes[fingers], 0, 0, 0, 27);
            due("three, all " + fingers + " apart", x.readShown(0, 0, 0, 0, 0), -1);
            x.forget(0, 0);
            x.forget(0, 0);
            due("the last of them, " + fingers + " apart", x.readShown(0, 0, 0, 0, 0), fingers <= 3 ? 27 : -1);
        }
        SignMasons x = lodges(1);
        x.addSign(0, 3, 0, 0, 0, 1);
        x.addSign(0, 12, 0, 0, 0, 2);
        x.addSign(0, 4, 0, 0, 0, 3);
        due("one that is 1 apart behind two that are 2 apart", x.readShown(0, 0, 0, 0, 0), 3);
        x.addSign(0, 5, 0, 0, 0, 4);
        due("and another that is 2 apart", x.readShown(0, 0, 0, 0, 0), 3);
        x.addSign(0, 0, 1, 0, 0, 5);
        due("and another that is 1 apart", x.readShown(0, 0, 0, 0, 0), -1);
    }

    private void whatThrowsChangesNothing() {
        terms("A method that throws an exception changes nothing.");
        Scene scene = Sentences::rich;
        refused(scene, "addLodge()", STATE, SignMasons::addLodge);
        refused(scene, "addSign() into a full book", STATE, x -> x.addSign(2, 0, 0, 0, 0, 0));
        refused(scene, "addSign() for a meaning that has one", STATE, x -> x.addSign(0, 0, 0, 0, 0, 29));
        refused(scene, "addSign() of thumb 4", ARGUMENT, x -> x.addSign(3, 0, 4, 0, 0, 0));
        refused(scene, "addSign() for meaning 30", ARGUMENT, x -> x.addSign(3, 0, 0, 0, 0, 30));
        refused(scene, "addSign() of no lodge", INDEX, x -> x.addSign(4, 0, 0, 0, 0, 0));
        refused(scene, "forget() of no sign", INDEX, x -> x.forget(0, 3));
        refused(scene, "setThumb() of thumb 4", ARGUMENT, x -> x.setThumb(0, 0, 4));
        refused(scene, "setThumb() of no sign", INDEX, x -> x.setThumb(3, 0, 1));
        refused(scene, "join(1, 9)", INDEX, x -> x.join(1, 9));
        refused(scene, "borrow() into a full book", STATE, x -> x.borrow(0, 0, 2));
        refused(scene, "borrow() for a meaning that has one", STATE, x -> x.borrow(1, 0, 0));
        refused(scene, "borrow() from itself", ARGUMENT, x -> x.borrow(1, 0, 1));
        refused(scene, "borrow() of no sign", INDEX, x -> x.borrow(1, 1, 3));
    }

    private void firstNamedIsThrown() {
        terms("If several exceptions apply, the one that is named first is thrown.");
        refused(Sentences::fullBesideOne, "no lodge, then no shape", INDEX, x -> x.addSign(2, 16, 0, 0, 0, 0));
        refused(Sentences::fullBesideOne, "no shape, then 16 signs", ARGUMENT, x -> x.addSign(0, 16, 0, 0, 0, 20));
        refused(Sentences::fullBesideOne, "no sign, then no thumb", INDEX, x -> x.setThumb(1, 1, 4));
        refused(Sentences::fullBesideOne, "no sign, then the same lodge", INDEX, x -> x.borrow(1, 1, 1));
        refused(Sentences::fullBesideOne, "the same lodge, then 16 signs", ARGUMENT, x -> x.borrow(0, 1, 0));
        refused(Sentences::fullBesideOne, "no lodge, then no shape", INDEX, x -> x.readShown(16, 0, 0, 0, 2));
    }

    private void calls512() {
        about("An object is used for at most 512 calls after it has been made; what later calls answer is free.");
        SignMasons x = lodges(4);
        for (int lodge = 0; lodge < 4; lodge++) {
            fill(x, lodge);
        }
        long first = x.digest();
        for (int call = 4 + 4 * 16 + 1; call < 512; call++) {
            due("digest() as call " + (call + 1), x.digest(), first);
        }
        SignMasons y = lodges(4);
        for (int call = 4; call < 512; call += 2) {
            due("addSign() as call " + (call + 1), y.addSign(3, 1, 2, 3, 0, call % 30), 0);
            due("forget() as call " + (call + 2), y.forget(3, 0), call % 30);
        }
    }
}
