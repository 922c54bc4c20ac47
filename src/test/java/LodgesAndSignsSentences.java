/** The sentences of promises 1 to 7: lodges and signs. */
final class LodgesAndSignsSentences extends Sentences {
    LodgesAndSignsSentences(Document document) {
        super(document);
    }

    @Override
    void testAll() {
        promise1CreatesNoLodges();
        promise1NoPlacesAreJoined();
        promise2Number();
        promise2ThereAre4();
        promise3PutsASign();
        promise3AlsoOneAlike();
        promise3ItsNumber();
        promise3NoSuchLodge();
        promise3ShapeThumbPlaceMovementMeaning();
        promise3ThereAre16();
        promise3OneForThisMeaning();
        promise3Order();
        promise4TakesOut();
        promise4ThoseBehind();
        promise4ItsMeaning();
        promise4NoSuchLodgeOrSign();
        promise5FromNowOn();
        promise5TheOneBefore();
        promise5NoSuchLodgeOrSign();
        promise5ThumbIsNot0To3();
        promise5Order();
        promise6JoinsTwoPlaces();
        promise6HowManyGroups();
        promise6IsNot0To8();
        promise7Borrows();
        promise7TheThumbOfThatOne();
        promise7TheFirstThumbBehind();
        promise7ItsNumber();
        promise7NoSuchLodgeOrSign();
        promise7BothAreTheSame();
        promise7The16Signs();
        promise7OneForThisMeaning();
        promise7AlikeWithEachThumb();
        promise7Order();
    }

    /** What all calls of a book tell of a sign; the movement is told by how it is read. */
    private void dueSign(SignMasons x, int lodge, int sign, int shape, int thumb, int place, int meaning) {
        String name = "(" + lodge + ", " + sign + ")";
        due("shapeOf" + name, x.shapeOf(lodge, sign), shape);
        due("thumbOf" + name, x.thumbOf(lodge, sign), thumb);
        due("placeOf" + name, x.placeOf(lodge, sign), place);
        due("meaningOf" + name, x.meaningOf(lodge, sign), meaning);
        due("signFor(" + lodge + ", " + meaning + ")", x.signFor(lodge, meaning), sign);
    }

    private void promise1CreatesNoLodges() {
        sentence(1, "Creates no lodges;");
        SignMasons x = new SignMasons();
        due("lodges()", x.lodges(), 0);
        due("addLodge()", x.addLodge(), 0);
        due("lodges() of another new object", new SignMasons().lodges(), 0);
        refused(SignMasons::new, "signsOf(0)", INDEX, y -> y.signsOf(0));
    }

    private void promise1NoPlacesAreJoined() {
        sentence(1, "no places are joined.");
        SignMasons x = new SignMasons();
        due("groups()", x.groups(), 9);
        for (int one = 0; one < 9; one++) {
            for (int other = 0; other < 9; other++) {
                due("areJoined(" + one + ", " + other + ")", x.areJoined(one, other), one == other);
            }
        }
        x.join(0, 1);
        due("groups() of another new object", new SignMasons().groups(), 9);
    }

    private void promise2Number() {
        sentence(2, "Returns the number of a new lodge.");
        SignMasons x = new SignMasons();
        for (int lodge = 0; lodge < 4; lodge++) {
            due("addLodge()", x.addLodge(), lodge);
            due("lodges()", x.lodges(), lodge + 1);
            due("signsOf() of the new lodge", x.signsOf(lodge), 0);
            due("addSign() of the new lodge", x.addSign(lodge, 1, 1, 1, 1, lodge), 0);
        }
        for (int lodge = 0; lodge < 4; lodge++) {
            due("meaningOf(" + lodge + ", 0)", x.meaningOf(lodge, 0), lodge);
        }
    }

    private void promise2ThereAre4() {
        sentence(2, "Throws IllegalStateException if there are 4");
        due("addLodge() with 3", lodges(3).addLodge(), 3);
        refused(() -> lodges(4), "addLodge() with 4", STATE, SignMasons::addLodge);
        refused(Sentences::rich, "addLodge() with 4 that have signs", STATE, SignMasons::addLodge);
        Scene refusedOnce = () -> {
            SignMasons x = lodges(4);
            try {
                x.addLodge();
            } catch (IllegalStateException e) {
                due("lodges() after a refused addLodge()", x.lodges(), 4);
            }
            return x;
        };
        refused(refusedOnce, "addLodge() with 4, again", STATE, SignMasons::addLodge);
    }

    private void promise3PutsASign() {
        sentence(3, "Puts a sign into the book of a lodge");
        SignMasons x = lodges(4);
        x.addSign(0, 0, 0, 0, 0, 0);
        x.addSign(3, 15, 3, 8, 3, 29);
        x.addSign(3, 6, 1, 5, 2, 13);
        dueSign(x, 0, 0, 0, 0, 0, 0);
        dueSign(x, 3, 0, 15, 3, 8, 29);
        dueSign(x, 3, 1, 6, 1, 5, 13);
        due("signsOf(0)", x.signsOf(0), 1);
        due("signsOf(1)", x.signsOf(1), 0);
        due("signsOf(2)", x.signsOf(2), 0);
        due("signsOf(3)", x.signsOf(3), 2);
        due("two fingers off, movement 2", x.readShown(5, 1, 5, 2, 3), 13);
        due("two fingers off, movement 1", x.readShown(5, 1, 5, 1, 3), -1);
    }

    private void promise3AlsoOneAlike() {
        sentence(3, "also one that is alike to another one.");
        SignMasons x = lodges(1);
        x.join(4, 5);
        for (int meaning = 0; meaning < 16; meaning++) {
            due("addSign() for " + meaning, x.addSign(0, 9, 2, 4 + meaning % 2, 1, meaning), meaning);
        }
        due("signsOf(0)", x.signsOf(0), 16);
        due("thumbOf(0, 15), which is not moved", x.thumbOf(0, 15), 2);
        due("alikePairs(0)", x.alikePairs(0), 120);
    }

    private void promise3ItsNumber() {
        sentence(3, "Returns its number.");
        SignMasons x = lodges(2);
        for (int sign = 0; sign < 16; sign++) {
            due("addSign() into a book of " + sign, x.addSign(1, 0, 0, 0, 0, 29 - sign), sign);
        }
        due("addSign() into the other book", x.addSign(0, 0, 0, 0, 0, 29), 0);
        x.forget(1, 3);
        due("addSign() after forget(1, 3)", x.addSign(1, 1, 1, 1, 1, 0), 15);
        due("meaningOf(1, 15)", x.meaningOf(1, 15), 0);
    }

    private void promise3NoSuchLodge() {
        sentence(3, "Throws IndexOutOfBoundsException if there is no such lodge");
        noSuchLodge("addSign()", (x, number) -> x.addSign(number, 1, 1, 1, 1, 20));
    }

    private void promise3ShapeThumbPlaceMovementMeaning() {
        Scene two = () -> peopled(2);
        sentence(3, "Throws IllegalArgumentException if shape is not 0 to 15");
        refusedOutside(15, two, "shape", ARGUMENT, (x, number) -> x.addSign(0, number, 0, 0, 0, 20));
        due("shape 0", peopled(2).addSign(0, 0, 1, 1, 1, 20), 2);
        due("shape 15", peopled(2).addSign(0, 15, 1, 1, 1, 20), 2);
        sentence(3, "thumb is not 0 to 3");
        refusedOutside(3, two, "thumb", ARGUMENT, (x, number) -> x.addSign(0, 0, number, 0, 0, 20));
        due("thumb 0", peopled(2).addSign(0, 1, 0, 1, 1, 20), 2);
        due("thumb 3", peopled(2).addSign(0, 1, 3, 1, 1, 20), 2);
        sentence(3, "place is not 0 to 8");
        refusedOutside(8, two, "place", ARGUMENT, (x, number) -> x.addSign(0, 0, 0, number, 0, 20));
        due("place 0", peopled(2).addSign(0, 1, 1, 0, 1, 20), 2);
        due("place 8", peopled(2).addSign(0, 1, 1, 8, 1, 20), 2);
        sentence(3, "movement is not 0 to 3");
        refusedOutside(3, two, "movement", ARGUMENT, (x, number) -> x.addSign(0, 0, 0, 0, number, 20));
        due("movement 0", peopled(2).addSign(0, 1, 1, 1, 0, 20), 2);
        due("movement 3", peopled(2).addSign(0, 1, 1, 1, 3, 20), 2);
        sentence(3, "or meaning is not 0 to 29");
        refusedOutside(29, two, "meaning", ARGUMENT, (x, number) -> x.addSign(0, 0, 0, 0, 0, number));
        due("meaning 0", peopled(2).addSign(1, 1, 1, 1, 1, 0), 2);
        due("meaning 29", peopled(2).addSign(1, 1, 1, 1, 1, 29), 2);
    }

    private void promise3ThereAre16() {
        sentence(3, "Throws IllegalStateException if there are 16");
        refused(Sentences::full, "a 17th", STATE, x -> x.addSign(0, 0, 1, 1, 1, 16));
        refused(Sentences::full, "a 17th", STATE, x -> x.addSign(0, 0, 1, 1, 1, 29));
        SignMasons x = full();
        x.forget(0, 0);
        due("addSign() into a book of 15", x.addSign(0, 0, 1, 1, 1, 29), 15);
        SignMasons y = emptyBesideFull();
        due("addSign() beside a full book", y.addSign(0, 0, 0, 0, 0, 0), 0);
    }

    private void promise3OneForThisMeaning() {
        sentence(3, "or there is one for this meaning");
        Scene ends = () -> {
            SignMasons x = lodges(2);
            x.addSign(0, 1, 1, 1, 1, 0);
            x.addSign(0, 2, 2, 2, 2, 14);
            x.addSign(0, 3, 3, 3, 3, 29);
            return x;
        };
        refused(ends, "for 0", STATE, x -> x.addSign(0, 9, 0, 5, 0, 0));
        refused(ends, "for 14", STATE, x -> x.addSign(0, 9, 0, 5, 0, 14));
        refused(ends, "for 29", STATE, x -> x.addSign(0, 9, 0, 5, 0, 29));
        SignMasons x = ends.make();
        due("for 29 in the other lodge", x.addSign(1, 9, 0, 5, 0, 29), 0);
        due("for 28", x.addSign(0, 9, 0, 5, 0, 28), 3);
        x.forget(0, 0);
        due("for 0 after it is forgotten", x.addSign(0, 9, 0, 5, 0, 0), 3);
    }

    private void promise3Order() {
        order(3);
        for (int number : outside(29)) {
            refused(() -> peopled(2), "no lodge " + number + ", nothing else fits", INDEX,
                    x -> x.addSign(number, number, number, number, number, number));
            refused(Sentences::full, "meaning " + number + " and 16 signs", ARGUMENT,
                    x -> x.addSign(0, 0, 0, 0, 0, number));
            refused(Sentences::full, "shape " + number + " and 16 signs", ARGUMENT,
                    x -> x.addSign(0, number, 0, 0, 0, 29));
            refused(() -> peopled(1), "thumb " + number + " and one for this meaning", ARGUMENT,
                    x -> x.addSign(0, 0, number, 0, 0, 1));
            refused(() -> peopled(1), "place " + number + " and one for this meaning", ARGUMENT,
                    x -> x.addSign(0, 0, 0, number, 0, 1));
            refused(() -> peopled(1), "movement " + number + " and one for this meaning", ARGUMENT,
                    x -> x.addSign(0, 0, 0, 0, number, 1));
        }
        refused(Sentences::full, "no lodge and no meaning", INDEX, x -> x.addSign(1, 0, 0, 0, 0, 30));
    }

    /** Lodge 1 has five signs, which differ in all; lodge 0 one of its own. */
    private static SignMasons five() {
        SignMasons x = lodges(2);
        x.addSign(0, 9, 1, 4, 2, 21);
        x.addSign(1, 0, 0, 0, 0, 20);
        x.addSign(1, 1, 1, 2, 1, 21);
        x.addSign(1, 2, 2, 4, 2, 22);
        x.addSign(1, 4, 3, 6, 3, 23);
        x.addSign(1, 8, 0, 8, 0, 24);
        return x;
    }

    private void promise4TakesOut() {
        sentence(4, "Takes a sign out of a book;");
        SignMasons x = five();
        x.forget(1, 1);
        due("signsOf(1)", x.signsOf(1), 4);
        due("signFor(1, 21)", x.signFor(1, 21), -1);
        dueSign(x, 0, 0, 9, 1, 4, 21);
        x.forget(0, 0);
        due("signsOf(0) after its only one", x.signsOf(0), 0);
        due("signFor(0, 21)", x.signFor(0, 21), -1);
        due("signsOf(1)", x.signsOf(1), 4);
        SignMasons full = full();
        for (int left = 15; left >= 0; left--) {
            full.forget(0, left / 2);
            due("signsOf(0) of a book that was full", full.signsOf(0), left);
        }
    }

    private void promise4ThoseBehind() {
        sentence(4, "those behind it have a number 1 less then.");
        for (int gone = 0; gone < 5; gone++) {
            SignMasons x = five();
            x.forget(1, gone);
            for (int was = 0; was < 5; was++) {
                if (was != gone) {
                    int shape = was == 0 ? 0 : 1 << (was - 1);
                    int now = was < gone ? was : was - 1;
                    dueSign(x, 1, now, shape, was % 4, 2 * was, 20 + was);
                    due("apart() of the last one, which the movements are part of",
                            x.apart(1, now, 3), five().apart(1, was, gone == 4 ? 3 : 4));
                }
            }
        }
        SignMasons full = full();
        full.forget(0, 0);
        for (int sign = 0; sign < 15; sign++) {
            dueSign(full, 0, sign, sign + 1, 0, 0, sign + 1);
        }
    }

    private void promise4ItsMeaning() {
        sentence(4, "Returns its meaning.");
        SignMasons x = five();
        due("forget(1, 0), the first", x.forget(1, 0), 20);
        due("forget(1, 3), the last", x.forget(1, 3), 24);
        due("forget(1, 1)", x.forget(1, 1), 22);
        due("forget(1, 1)", x.forget(1, 1), 23);
        due("forget(1, 0), the only one", x.forget(1, 0), 21);
        SignMasons y = lodges(1);
        y.addSign(0, 0, 0, 0, 0, 0);
        y.addSign(0, 0, 0, 0, 0, 29);
        due("forget(0, 1)", y.forget(0, 1), 29);
        due("forget(0, 0)", y.forget(0, 0), 0);
        SignMasons full = full();
        due("forget(0, 15) of a full book", full.forget(0, 15), 15);
    }

    private void promise4NoSuchLodgeOrSign() {
        sentence(4, "Throws IndexOutOfBoundsException if there is no such lodge");
        noSuchLodge("forget()", (x, number) -> x.forget(number, 0));
        sentence(4, "or sign of it");
        noSuchSign("forget()", (x, number) -> x.forget(0, number));
    }

    private void promise5FromNowOn() {
        sentence(5, "its thumb from now on");
        for (int before = 0; before < 4; before++) {
            for (int thumb = 0; thumb < 4; thumb++) {
                SignMasons x = lodges(2);
                x.addSign(1, 6, 1, 5, 2, 12);
                x.addSign(1, 5, before, 7, 3, 13);
                x.addSign(1, 6, 1, 5, 2, 14);
                x.setThumb(1, 1, thumb);
                dueSign(x, 1, 1, 5, thumb, 7, 13);
                due("thumbOf(1, 0)", x.thumbOf(1, 0), 1);
                due("thumbOf(1, 2)", x.thumbOf(1, 2), 1);
                due("movement 3 still", x.readShown(6, thumb, 7, 3, 1), 13);
                due("movement 2 still not", x.readShown(6, thumb, 7, 2, 1), -1);
            }
        }
        SignMasons alike = lodges(1);
        alike.addSign(0, 1, 0, 0, 0, 0);
        alike.addSign(0, 1, 3, 0, 0, 1);
        alike.setThumb(0, 0, 3);
        due("alikePairs(0), as it may be made alike", alike.alikePairs(0), 1);
        SignMasons full = full();
        full.setThumb(0, 15, 3);
        dueSign(full, 0, 15, 15, 3, 0, 15);
    }

    private void promise5TheOneBefore() {
        sentence(5, "Returns the one before.");
        for (int before = 0; before < 4; before++) {
            for (int thumb = 0; thumb < 4; thumb++) {
                SignMasons x = lodges(1);
                x.addSign(0, 15, before, 8, 3, 29);
                due("setThumb(0, 0, " + thumb + ")", x.setThumb(0, 0, thumb), before);
                due("setThumb(0, 0, 0) then", x.setThumb(0, 0, 0), thumb);
            }
        }
        SignMasons x = lodges(2);
        for (int sign = 0; sign < 16; sign++) {
            x.addSign(0, 9, (sign + 1) % 4, 4, 2, sign);
            x.addSign(1, 9, sign % 4, 4, 2, sign);
        }
        for (int sign = 0; sign < 16; sign++) {
            due("setThumb(1, " + sign + ", 2) of a full book", x.setThumb(1, sign, 2), sign % 4);
        }
    }

    private void promise5NoSuchLodgeOrSign() {
        sentence(5, "Throws IndexOutOfBoundsException if there is no such lodge");
        noSuchLodge("setThumb()", (x, number) -> x.setThumb(number, 0, 2));
        sentence(5, "or sign of it");
        noSuchSign("setThumb()", (x, number) -> x.setThumb(0, number, 2));
    }

    private void promise5ThumbIsNot0To3() {
        sentence(5, "Throws IllegalArgumentException if thumb is not 0 to 3");
        refusedOutside(3, () -> peopled(2), "setThumb()", ARGUMENT, (x, number) -> x.setThumb(1, 1, number));
        refusedOutside(3, Sentences::full, "setThumb()", ARGUMENT, (x, number) -> x.setThumb(0, 15, number));
    }

    private void promise5Order() {
        order(5);
        for (int thumb : outside(3)) {
            refused(() -> peopled(2), "no lodge and thumb " + thumb, INDEX, x -> x.setThumb(2, 0, thumb));
            refused(() -> peopled(2), "lodge -1 and thumb " + thumb, INDEX, x -> x.setThumb(-1, 0, thumb));
            refused(() -> peopled(2), "no sign and thumb " + thumb, INDEX, x -> x.setThumb(0, 2, thumb));
            refused(() -> peopled(2), "sign -1 and thumb " + thumb, INDEX, x -> x.setThumb(0, -1, thumb));
        }
    }

    private void promise6JoinsTwoPlaces() {
        sentence(6, "Joins two places.");
        for (int one = 0; one < 9; one++) {
            for (int other = 0; other < 9; other++) {
                SignMasons x = new SignMasons();
                x.join(one, other);
                String call = "after join(" + one + ", " + other + ") ";
                for (int place = 0; place < 9; place++) {
                    due(call + "areJoined(" + one + ", " + place + ")", x.areJoined(one, place),
                            place == one || place == other);
                    due(call + "areJoined(" + place + ", " + other + ")", x.areJoined(place, other),
                            place == one || place == other);
                }
            }
        }
    }

    private void promise6HowManyGroups() {
        sentence(6, "Returns how many groups of places there are then.");
        SignMasons x = new SignMasons();
        due("join(3, 3), a place with itself", x.join(3, 3), 9);
        due("join(0, 8)", x.join(0, 8), 8);
        due("join(0, 8) again", x.join(0, 8), 8);
        due("join(8, 0)", x.join(8, 0), 8);
        due("join(1, 2)", x.join(1, 2), 7);
        due("join(2, 8), two groups of two", x.join(2, 8), 6);
        due("join(0, 1), in the same group already", x.join(0, 1), 6);
        due("join(3, 4)", x.join(3, 4), 5);
        due("join(5, 6)", x.join(5, 6), 4);
        due("join(6, 7)", x.join(6, 7), 3);
        due("join(7, 3)", x.join(7, 3), 2);
        due("join(4, 1), the last two groups", x.join(4, 1), 1);
        for (int place = 0; place < 9; place++) {
            due("join(" + place + ", 5) in the only group", x.join(place, 5), 1);
        }
    }

    private void promise6IsNot0To8() {
        sentence(6, "Throws IndexOutOfBoundsException if one of them is not 0 to 8");
        refusedOutside(8, Sentences::rich, "join() of the first", INDEX, (x, number) -> x.join(number, 1));
        refusedOutside(8, Sentences::rich, "join() of the second", INDEX, (x, number) -> x.join(1, number));
        refusedOutside(8, Sentences::rich, "join() of both", INDEX, (x, number) -> x.join(number, number));
        due("join(0, 8)", new SignMasons().join(0, 8), 8);
    }

    private void promise7Borrows() {
        sentence(7, "A lodge borrows a sign of another one.");
        SignMasons x = five();
        x.borrow(1, 3, 0);
        due("signsOf(0)", x.signsOf(0), 2);
        due("signsOf(1), which keeps it", x.signsOf(1), 5);
        dueSign(x, 0, 1, 4, 3, 6, 23);
        dueSign(x, 1, 3, 4, 3, 6, 23);
        dueSign(x, 0, 0, 9, 1, 4, 21);
        due("two fingers off with its movement", x.readShown(7, 3, 6, 3, 0), 23);
        due("two fingers off with another movement", x.readShown(7, 3, 6, 2, 0), -1);
        x.setThumb(0, 1, 1);
        due("thumbOf(1, 3), as each lodge has a sign of its own", x.thumbOf(1, 3), 3);
        x.forget(1, 3);
        dueSign(x, 0, 1, 4, 1, 6, 23);
        SignMasons y = lodges(4);
        y.addSign(3, 15, 3, 8, 3, 29);
        due("the last lodge lends to the first", y.borrow(3, 0, 0), 0);
        due("and that one to another", y.borrow(0, 0, 2), 0);
        dueSign(y, 2, 0, 15, 3, 8, 29);
    }

    private void promise7TheThumbOfThatOne() {
        sentence(7, "It has the thumb of that one");
        for (int thumb = 0; thumb < 4; thumb++) {
            SignMasons x = lodges(3);
            x.join(0, 1);
            x.addSign(0, 6, thumb, 4, 2, 5);
            // None of these is alike: each differs by one part only.
            x.addSign(1, 7, thumb, 4, 2, 10);
            x.addSign(1, 6, (thumb + 1) % 4, 4, 2, 11);
            x.addSign(1, 6, (thumb + 2) % 4, 4, 2, 12);
            x.addSign(1, 6, (thumb + 3) % 4, 4, 2, 13);
            x.addSign(1, 6, thumb, 5, 2, 14);
            x.addSign(1, 6, thumb, 1, 2, 15);
            x.addSign(1, 6, thumb, 4, 3, 16);
            // Those that are alike in the lender's and a third book are no matter.
            x.addSign(0, 6, thumb, 4, 2, 6);
            x.addSign(2, 6, thumb, 4, 2, 7);
            due("borrow(0, 0, 1)", x.borrow(0, 0, 1), 7);
            dueSign(x, 1, 7, 6, thumb, 4, 5);
        }
        SignMasons empty = lodges(2);
        empty.addSign(0, 6, 3, 4, 2, 5);
        empty.addSign(1, 6, 3, 4, 2, 6);
        empty.forget(1, 0);
        empty.borrow(0, 0, 1);
        due("thumbOf(1, 0) in a book whose only sign was forgotten", empty.thumbOf(1, 0), 3);
    }

    /** The first free thumb from this one on, 0 behind 3; -1 if all are taken. */
    private static int firstFree(int own, int taken) {
        int[] turn = {0, 1, 2, 3, 0, 1, 2};
        for (int i = own; i < own + 4; i++) {
            if ((taken >> turn[i] & 1) == 0) {
                return turn[i];
            }
        }
        return -1;
    }

    /** Lodge 0 has a sign with this thumb; lodge 1 has ones that would be alike with each thumb taken. */
    private static SignMasons takenThumbs(int own, int taken) {
        SignMasons x = lodges(2);
        x.join(4, 8);
        x.addSign(0, 6, own, 4, 2, 5);
        for (int thumb = 3; thumb >= 0; thumb--) {
            if ((taken >> thumb & 1) == 1) {
                x.addSign(1, 6, thumb, thumb % 2 == 0 ? 4 : 8, 2, 10 + thumb);
            }
        }
        return x;
    }

    private void promise7TheFirstThumbBehind() {
        sentence(7, "or, if it would be alike to some sign of the book then, "
                + "the first thumb behind that one (0 behind 3) with which it is not.");
        for (int own = 0; own < 4; own++) {
            for (int taken = 0; taken < 15; taken++) {
                SignMasons x = takenThumbs(own, taken);
                int sign = x.borrow(0, 0, 1);
                due("thumbOf() of thumb " + own + " borrowed with those of the bits " + taken + " taken",
                        x.thumbOf(1, sign), firstFree(own, taken));
                due("placeOf(1, " + sign + ")", x.placeOf(1, sign), 4);
                due("thumbOf(0, 0)", x.thumbOf(0, 0), own);
                due("alikePairs(1)", x.alikePairs(1), 0);
            }
        }
        SignMasons x = takenThumbs(3, 8);
        x.borrow(0, 0, 1);
        due("thumbOf(1, 1), 0 behind 3", x.thumbOf(1, 1), 0);
    }

    private void promise7ItsNumber() {
        sentence(7, "Returns its number in the book of this lodge.");
        SignMasons x = lodges(2);
        fill(x, 0);
        for (int sign = 15; sign >= 0; sign--) {
            due("borrow(0, " + sign + ", 1)", x.borrow(0, sign, 1), 15 - sign);
            due("meaningOf(1, " + (15 - sign) + ")", x.meaningOf(1, 15 - sign), sign);
        }
        x.forget(1, 0);
        due("borrow(0, 15, 1) after forget(1, 0)", x.borrow(0, 15, 1), 15);
    }

    private void promise7NoSuchLodgeOrSign() {
        sentence(7, "Throws IndexOutOfBoundsException if there is no such lodge");
        noSuchLodge("borrow() from", (x, number) -> x.borrow(number, 0, 0));
        noSuchLodge("borrow() to", (x, number) -> x.borrow(0, 0, number));
        noSuchLodge("borrow() from and to", (x, number) -> x.borrow(number, 0, number));
        sentence(7, "or sign of the first one");
        noSuchSign("borrow()", (x, number) -> x.borrow(0, number, 1));
        refused(Sentences::fullBesideOne, "a sign of the second one only", INDEX, x -> x.borrow(1, 1, 0));
    }

    private void promise7BothAreTheSame() {
        sentence(7, "Throws IllegalArgumentException if both lodges are the same");
        refused(() -> peopled(1), "borrow(0, 1, 0)", ARGUMENT, x -> x.borrow(0, 1, 0));
        refused(Sentences::rich, "borrow(1, 0, 1)", ARGUMENT, x -> x.borrow(1, 0, 1));
        refused(() -> peopled(4), "borrow(3, 0, 3)", ARGUMENT, x -> x.borrow(3, 0, 3));
    }

    private void promise7The16Signs() {
        sentence(7, "Throws IllegalStateException if the book has 16 signs");
        refused(Sentences::fullBesideOne, "borrow(1, 0, 0)", STATE, x -> x.borrow(1, 0, 0));
        SignMasons x = fullBesideOne();
        x.forget(0, 7);
        due("borrow(1, 0, 0) into a book of 15", x.borrow(1, 0, 0), 15);
        SignMasons y = emptyBesideFull();
        due("borrow(1, 15, 0) from a full book", y.borrow(1, 15, 0), 0);
    }

    private void promise7OneForThisMeaning() {
        sentence(7, "one for this meaning");
        Scene same = () -> {
            SignMasons x = lodges(2);
            x.addSign(0, 1, 1, 1, 1, 0);
            x.addSign(0, 2, 2, 2, 2, 29);
            x.addSign(1, 14, 0, 8, 3, 29);
            x.addSign(1, 13, 0, 8, 3, 0);
            return x;
        };
        refused(same, "borrow(0, 0, 1)", STATE, x -> x.borrow(0, 0, 1));
        refused(same, "borrow(0, 1, 1)", STATE, x -> x.borrow(0, 1, 1));
        SignMasons x = same.make();
        x.forget(1, 0);
        due("borrow(0, 1, 1) after it is forgotten", x.borrow(0, 1, 1), 1);
        Scene borrowed = () -> {
            SignMasons y = peopled(2);
            y.borrow(0, 1, 1);
            return y;
        };
        refused(borrowed, "borrow(0, 1, 1) again", STATE, y -> y.borrow(0, 1, 1));
        refused(borrowed, "borrow(1, 2, 0) back", STATE, y -> y.borrow(1, 2, 0));
    }

    private void promise7AlikeWithEachThumb() {
        sentence(7, "or it would be alike to some with each thumb");
        for (int own = 0; own < 4; own++) {
            int thumb = own;
            refused(() -> takenThumbs(thumb, 15), "borrow() of thumb " + own, STATE, x -> x.borrow(0, 0, 1));
            SignMasons x = takenThumbs(own, 15);
            x.setThumb(1, 3, 1);
            due("borrow() of thumb " + own + " as thumb 0 is free", x.borrow(0, 0, 1), 4);
            due("thumbOf(1, 4)", x.thumbOf(1, 4), 0);
        }
    }

    private void promise7Order() {
        order(7);
        for (int number : outside(15)) {
            refused(() -> peopled(2), "no sign " + number + ", the same lodge", INDEX, x -> x.borrow(1, number, 1));
            refused(Sentences::fullBesideOne, "no sign " + number + ", a full book", INDEX,
                    x -> x.borrow(1, number, 0));
            refused(() -> peopled(2), "no lodge " + number + " twice", INDEX, x -> x.borrow(number, 0, number));
            refused(Sentences::fullBesideOne, "from no lodge " + number + " to a full book", INDEX,
                    x -> x.borrow(number, 0, 0));
            refused(Sentences::fullBesideOne, "no sign " + number + " to no lodge", INDEX,
                    x -> x.borrow(0, number, 2));
        }
        refused(Sentences::fullBesideOne, "the same lodge, 16 signs", ARGUMENT, x -> x.borrow(0, 0, 0));
        refused(() -> peopled(2), "the same lodge, one for this meaning", ARGUMENT, x -> x.borrow(0, 0, 0));
    }
}
