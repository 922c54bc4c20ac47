/** The sentences of promises 23 to 27: reading. */
final class ReadingSentences extends Sentences {
    ReadingSentences(Document document) {
        super(document);
    }

    @Override
    void testAll() {
        promise23TheMeaning();
        promise23MayBeTheSameOne();
        promise23NotRead();
        promise23NoSuchLodgeOrSign();
        promise24TheMeaning();
        promise24NotRead();
        promise24NoSuchLodge();
        promise24ShapeThumbPlaceMovement();
        promise24Order();
        promise25AsWhatTheyMean();
        promise25NoSuchLodge();
        promise26AsSomethingElse();
        promise26NoSuchLodge();
        promise27BothReadAsMeant();
        promise27NoSuchLodge();
    }

    private void promise23TheMeaning() {
        sentence(23, "Returns the meaning as which it is read there;");
        SignMasons x = lodges(4);
        x.addSign(0, 0, 0, 0, 0, 15);
        x.addSign(0, 15, 3, 8, 3, 16);
        x.addSign(3, 7, 0, 0, 0, 0);
        x.addSign(3, 15, 0, 8, 1, 29);
        due("read(0, 0, 3), 3 apart by fingers, as meaning 0", x.read(0, 0, 3), 0);
        due("read(0, 1, 3), 3 apart by thumb and movement, as meaning 29", x.read(0, 1, 3), 29);
        due("read(3, 0, 0), the other way", x.read(3, 0, 0), 15);
        due("read(3, 1, 0), the other way", x.read(3, 1, 0), 16);
        x.addSign(3, 0, 0, 1, 0, 5);
        due("read(0, 0, 3) as one is nearer", x.read(0, 0, 3), 5);
        x.addSign(3, 0, 0, 0, 1, 6);
        due("read(0, 0, 3) as another is not nearer", x.read(0, 0, 3), 5);
        SignMasons far = lodges(2);
        far.addSign(0, 0, 0, 0, 0, 1);
        far.addSign(1, 0, 0, 8, 0, 2);
        far.join(0, 8);
        due("read(0, 0, 1) by joined places", far.read(0, 0, 1), 2);
        unchanged(Sentences::rich, "read(0, 2, 2)", y -> y.read(0, 2, 2));
    }

    private void promise23MayBeTheSameOne() {
        sentence(23, "to: a lodge, may be the same one");
        SignMasons x = full();
        for (int sign = 0; sign < 16; sign++) {
            due("read(0, " + sign + ", 0)", x.read(0, sign, 0), sign);
        }
        x.setThumb(0, 15, 3);
        due("read(0, 15, 0), 0 apart from itself", x.read(0, 15, 0), 15);
        unchanged(Sentences::rich, "read(2, 15, 2)", y -> y.read(2, 15, 2));
        SignMasons alone = peopled(1);
        due("read(0, 1, 0) with one lodge", alone.read(0, 1, 0), 1);
    }

    private void promise23NotRead() {
        sentence(23, "-1 if it is not read.");
        SignMasons x = lodges(3);
        x.addSign(0, 0, 0, 0, 0, 7);
        due("read(0, 0, 1), an empty book", x.read(0, 0, 1), -1);
        x.addSign(1, 15, 0, 0, 0, 7);
        due("read(0, 0, 1), 4 apart by fingers", x.read(0, 0, 1), -1);
        x.addSign(1, 0, 0, 8, 0, 8);
        due("read(0, 0, 1), 4 apart by steps", x.read(0, 0, 1), -1);
        x.addSign(1, 1, 1, 0, 1, 9);
        due("read(0, 0, 1), 4 apart by finger, thumb and movement", x.read(0, 0, 1), -1);
        x.addSign(2, 7, 0, 0, 0, 7);
        x.addSign(2, 11, 0, 0, 0, 8);
        due("read(0, 0, 2), two 3 apart", x.read(0, 0, 2), -1);
        x.addSign(2, 0, 0, 0, 0, 9);
        x.addSign(2, 0, 0, 0, 0, 10);
        due("read(0, 0, 2), two 0 apart", x.read(0, 0, 2), -1);
        x.addSign(0, 0, 0, 0, 0, 8);
        due("read(0, 0, 0), alike to another one of its own lodge", x.read(0, 0, 0), -1);
        due("read(0, 1, 0), alike to another one of its own lodge", x.read(0, 1, 0), -1);
        x.forget(0, 0);
        due("read(0, 0, 0), as the other one is forgotten", x.read(0, 0, 0), 8);
        unchanged(Sentences::rich, "read(2, 0, 3)", y -> y.read(2, 0, 3));
    }

    private void promise23NoSuchLodgeOrSign() {
        sentence(23, "Throws IndexOutOfBoundsException if there is no such lodge");
        noSuchLodge("read() from", (x, number) -> x.read(number, 0, 0));
        noSuchLodge("read() to", (x, number) -> x.read(0, 0, number));
        noSuchLodge("read() from and to", (x, number) -> x.read(number, 0, number));
        sentence(23, "or sign of the first one");
        noSuchSign("read() in another", (x, number) -> x.read(0, number, 1));
        noSuchSign("read() in its own", (x, number) -> x.read(0, number, 0));
        refused(Sentences::fullBesideOne, "a sign of the second one only", INDEX, x -> x.read(1, 1, 0));
    }

    private void promise24TheMeaning() {
        sentence(24, "Returns the meaning as which such a sign is read there;");
        SignMasons x = lodges(2);
        x.addSign(1, 0, 0, 0, 0, 0);
        x.addSign(1, 15, 3, 8, 3, 29);
        due("the least of all", x.readShown(0, 0, 0, 0, 1), 0);
        due("the greatest of all", x.readShown(15, 3, 8, 3, 1), 29);
        due("3 apart by fingers", x.readShown(7, 0, 0, 0, 1), 0);
        due("3 apart by steps", x.readShown(0, 0, 7, 0, 1), 0);
        due("3 apart by finger and movement", x.readShown(14, 3, 8, 0, 1), 29);
        due("3 apart by thumb and movement", x.readShown(15, 0, 8, 0, 1), 29);
        x.join(0, 4);
        due("3 apart with joined places", x.readShown(7, 0, 4, 0, 1), 0);
        x.addSign(1, 3, 0, 0, 0, 4);
        due("1 apart from one, 3 from another", x.readShown(7, 0, 0, 0, 1), 4);
        due("signsOf(1)", x.signsOf(1), 3);
        unchanged(Sentences::rich, "readShown(7, 1, 4, 2, 2)", y -> y.readShown(7, 1, 4, 2, 2));
        SignMasons full = full();
        for (int shape = 0; shape < 16; shape++) {
            due("shape " + shape + " in a full book", full.readShown(shape, 3, 0, 0, 0), shape);
        }
    }

    private void promise24NotRead() {
        sentence(24, "-1 if it is not read.");
        SignMasons x = lodges(2);
        x.addSign(1, 0, 0, 0, 0, 0);
        due("in an empty book", x.readShown(0, 0, 0, 0, 0), -1);
        due("4 apart by fingers", x.readShown(15, 0, 0, 0, 1), -1);
        due("4 apart by steps", x.readShown(0, 0, 8, 0, 1), -1);
        due("4 apart by finger, thumb and movement", x.readShown(8, 2, 0, 3, 1), -1);
        due("11 apart", x.readShown(15, 3, 8, 3, 1), -1);
        x.addSign(1, 1, 0, 0, 0, 1);
        due("the first one 2 apart, the second 1", x.readShown(1, 0, 1, 0, 1), 1);
        due("the first one 1 apart, the second 2", x.readShown(0, 1, 0, 0, 1), 0);
        x.addSign(1, 2, 0, 0, 0, 2);
        due("three, two of them 1 apart", x.readShown(3, 0, 0, 0, 1), -1);
        x.addSign(1, 0, 0, 0, 0, 3);
        due("two 0 apart", x.readShown(0, 0, 0, 0, 1), -1);
        unchanged(Sentences::rich, "readShown(7, 1, 4, 2, 3)", y -> y.readShown(7, 1, 4, 2, 3));
    }

    private void promise24NoSuchLodge() {
        sentence(24, "Throws IndexOutOfBoundsException if there is no such lodge");
        noSuchLodge("readShown()", (x, number) -> x.readShown(1, 1, 1, 1, number));
    }

    private void promise24ShapeThumbPlaceMovement() {
        Scene rich = Sentences::rich;
        SignMasons x = rich();
        sentence(24, "Throws IllegalArgumentException if shape is not 0 to 15");
        refusedOutside(15, rich, "shape", ARGUMENT, (y, number) -> y.readShown(number, 0, 0, 0, 2));
        refusedOutside(15, rich, "shape and an empty book", ARGUMENT, (y, number) -> y.readShown(number, 0, 0, 0, 3));
        due("shape 15 of an empty book", x.readShown(15, 0, 0, 0, 3), -1);
        sentence(24, "thumb is not 0 to 3");
        refusedOutside(3, rich, "thumb", ARGUMENT, (y, number) -> y.readShown(0, number, 0, 0, 2));
        due("thumb 3 of an empty book", x.readShown(0, 3, 0, 0, 3), -1);
        sentence(24, "place is not 0 to 8");
        refusedOutside(8, rich, "place", ARGUMENT, (y, number) -> y.readShown(0, 0, number, 0, 2));
        due("place 8 of an empty book", x.readShown(0, 0, 8, 0, 3), -1);
        sentence(24, "or movement is not 0 to 3");
        refusedOutside(3, rich, "movement", ARGUMENT, (y, number) -> y.readShown(0, 0, 0, number, 2));
        due("movement 3 of an empty book", x.readShown(0, 0, 0, 3, 3), -1);
    }

    private void promise24Order() {
        order(24);
        for (int number : outside(15)) {
            refused(() -> peopled(2), "no lodge, shape " + number, INDEX, x -> x.readShown(number, 0, 0, 0, 2));
            refused(() -> peopled(2), "no lodge, thumb " + number, INDEX, x -> x.readShown(0, number, 0, 0, 2));
            refused(() -> peopled(2), "no lodge, place " + number, INDEX, x -> x.readShown(0, 0, number, 0, -1));
            refused(() -> peopled(2), "no lodge, movement " + number, INDEX, x -> x.readShown(0, 0, 0, number, -1));
            refused(() -> peopled(2), "nothing fits: " + number, INDEX,
                    x -> x.readShown(number, number, number, number, number));
        }
    }

    /** Lodge 1 reads the signs of lodge 0, each far from the others: as meant, as another, not, as meant. */
    private static SignMasons four() {
        SignMasons x = lodges(3);
        x.addSign(0, 0, 0, 0, 0, 0);
        x.addSign(0, 15, 0, 0, 0, 1);
        x.addSign(0, 0, 0, 8, 2, 2);
        x.addSign(0, 15, 0, 8, 2, 29);
        x.addSign(1, 1, 0, 0, 0, 0);
        x.addSign(1, 14, 0, 0, 0, 3);
        x.addSign(1, 0, 0, 0, 2, 2);
        x.addSign(1, 15, 3, 8, 1, 29);
        return x;
    }

    private void promise25AsWhatTheyMean() {
        sentence(25, "Returns how many signs of the first one are read in the second one as what they mean.");
        SignMasons x = four();
        due("understood(0, 1)", x.understood(0, 1), 2);
        due("understood(1, 0)", x.understood(1, 0), 2);
        due("understood(0, 0)", x.understood(0, 0), 4);
        due("understood(0, 2), an empty book reads", x.understood(0, 2), 0);
        due("understood(2, 0), an empty book is read", x.understood(2, 0), 0);
        due("understood(2, 2), an empty book reads itself", x.understood(2, 2), 0);
        x.addSign(0, 15, 0, 0, 0, 10);
        due("understood(0, 0) with two alike", x.understood(0, 0), 3);
        x.addSign(1, 0, 0, 8, 1, 22);
        due("understood(0, 1) as one more is read, as something else", x.understood(0, 1), 2);
        x.forget(1, 3);
        due("understood(0, 1) without that for 29", x.understood(0, 1), 1);
        SignMasons full = emptyBesideFull();
        fill(full, 0);
        due("understood(0, 1) of full books", full.understood(0, 1), 16);
        due("understood(1, 1) of a full book", full.understood(1, 1), 16);
        unchanged(Sentences::rich, "understood(0, 2)", y -> y.understood(0, 2));
        unchanged(Sentences::rich, "understood(2, 2)", y -> y.understood(2, 2));
    }

    private void promise25NoSuchLodge() {
        sentence(25, "Throws IndexOutOfBoundsException if there is no such lodge");
        noSuchLodge("understood() from", (x, number) -> x.understood(number, 0));
        noSuchLodge("understood() to", (x, number) -> x.understood(0, number));
        noSuchLodge("understood() from and to", (x, number) -> x.understood(number, number));
    }

    private void promise26AsSomethingElse() {
        sentence(26, "Returns how many signs of the first one are read in the second one as something else.");
        SignMasons x = four();
        due("misread(0, 1)", x.misread(0, 1), 1);
        due("misread(1, 0)", x.misread(1, 0), 2);
        due("misread(0, 0)", x.misread(0, 0), 0);
        due("misread(0, 2), an empty book reads", x.misread(0, 2), 0);
        due("misread(2, 0), an empty book is read", x.misread(2, 0), 0);
        due("misread(2, 2), an empty book reads itself", x.misread(2, 2), 0);
        x.addSign(0, 15, 0, 0, 0, 10);
        due("misread(0, 0) with two alike, which are not read", x.misread(0, 0), 0);
        due("misread(0, 1) of both", x.misread(0, 1), 2);
        x.addSign(1, 0, 0, 8, 1, 22);
        due("misread(0, 1) as one more is read", x.misread(0, 1), 3);
        SignMasons full = lodges(2);
        for (int shape = 0; shape < 16; shape++) {
            full.addSign(0, shape, 0, 0, 0, shape);
            full.addSign(1, shape, 0, 0, 0, 29 - shape);
        }
        due("misread(0, 1) of full books", full.misread(0, 1), 16);
        due("misread(1, 1) of a full book", full.misread(1, 1), 0);
        unchanged(Sentences::rich, "misread(0, 2)", y -> y.misread(0, 2));
        unchanged(Sentences::rich, "misread(2, 3)", y -> y.misread(2, 3));
    }

    private void promise26NoSuchLodge() {
        sentence(26, "Throws IndexOutOfBoundsException if there is no such lodge");
        noSuchLodge("misread() from", (x, number) -> x.misread(number, 0));
        noSuchLodge("misread() to", (x, number) -> x.misread(0, number));
        noSuchLodge("misread() from and to", (x, number) -> x.misread(number, number));
    }

    private void promise27BothReadAsMeant() {
        sentence(27, "Returns how many meanings both have a sign for, "
                + "of which each is read in the other lodge as what it means.");
        SignMasons x = four();
        due("common(0, 1)", x.common(0, 1), 2);
        due("common(1, 0)", x.common(1, 0), 2);
        due("common(0, 0)", x.common(0, 0), 4);
        due("common(0, 2), an empty book", x.common(0, 2), 0);
        due("common(2, 0), an empty book", x.common(2, 0), 0);
        due("common(2, 2), an empty book twice", x.common(2, 2), 0);
        // Lodge 0 now reads the sign of lodge 1 for 0 as 9, while lodge 1 reads that of lodge 0 as before.
        x.addSign(0, 1, 0, 0, 0, 9);
        due("understood(0, 1)", x.understood(0, 1), 2);
        due("common(0, 1) as one is read in one way only", x.common(0, 1), 1);
        due("common(1, 0) as one is read in one way only", x.common(1, 0), 1);
        x.addSign(0, 0, 0, 0, 0, 10);
        due("common(0, 0) with two alike", x.common(0, 0), 4);
        SignMasons full = emptyBesideFull();
        fill(full, 0);
        due("common(0, 1) of full books", full.common(0, 1), 16);
        full.forget(1, 0);
        due("common(0, 1) as one is forgotten", full.common(0, 1), 15);
        SignMasons other = lodges(2);
        other.addSign(0, 1, 1, 1, 1, 0);
        other.addSign(1, 1, 1, 1, 1, 29);
        due("common(0, 1) of the same sign for other meanings", other.common(0, 1), 0);
        unchanged(Sentences::rich, "common(0, 1)", y -> y.common(0, 1));
        unchanged(Sentences::rich, "common(2, 2)", y -> y.common(2, 2));
    }

    private void promise27NoSuchLodge() {
        sentence(27, "Throws IndexOutOfBoundsException if there is no such lodge");
        noSuchLodge("common() of the first", (x, number) -> x.common(number, 0));
        noSuchLodge("common() of the second", (x, number) -> x.common(0, number));
        noSuchLodge("common() of both", (x, number) -> x.common(number, number));
    }
}
