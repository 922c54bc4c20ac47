/** The sentences of promises 11 to 17: books. */
final class BooksSentences extends Sentences {
    private interface Reader {
        int of(SignMasons x, int lodge, int sign);
    }

    BooksSentences(Document document) {
        super(document);
    }

    @Override
    void testAll() {
        promise11HowManyLodges();
        promise12HowManySigns();
        promise12NoSuchLodge();
        promise13ItsHandshape();
        promise14ItsThumb();
        promise15ItsPlace();
        promise16ItsMeaning();
        promise17ItsSign();
        promise17NoneIsThere();
        promise17NoSuchLodgeOrMeaning();
    }

    private void promise11HowManyLodges() {
        sentence(11, "Returns how many lodges there are.");
        for (int lodges = 0; lodges <= 4; lodges++) {
            int there = lodges;
            due("lodges()", lodges(lodges).lodges(), lodges);
            due("lodges() with signs", peopled(lodges).lodges(), lodges);
            unchanged(() -> peopled(there), "lodges()", SignMasons::lodges);
        }
    }

    private void promise12HowManySigns() {
        sentence(12, "Returns how many signs its book has.");
        SignMasons x = lodges(4);
        for (int signs = 0; signs < 16; signs++) {
            due("signsOf(3)", x.signsOf(3), signs);
            x.addSign(3, signs, 0, 0, 0, signs);
        }
        due("signsOf(3) of a full book", x.signsOf(3), 16);
        due("signsOf(0) beside it", x.signsOf(0), 0);
        x.borrow(3, 15, 0);
        due("signsOf(0) after it borrowed", x.signsOf(0), 1);
        due("signsOf(3) after it lent", x.signsOf(3), 16);
        for (int signs = 15; signs >= 0; signs--) {
            x.forget(3, signs);
            due("signsOf(3) after forget(3, " + signs + ")", x.signsOf(3), signs);
        }
        unchanged(Sentences::rich, "signsOf(2)", y -> y.signsOf(2));
        unchanged(Sentences::rich, "signsOf(3)", y -> y.signsOf(3));
    }

    private void promise12NoSuchLodge() {
        sentence(12, "Throws IndexOutOfBoundsException if there is no such lodge");
        noSuchLodge("signsOf()", SignMasons::signsOf);
    }

    /** Two lodges: the book of 0 is full of signs of least numbers, that of 1 has the greatest at its end. */
    private static SignMasons leastAndGreatest() {
        SignMasons x = lodges(2);
        for (int i = 0; i < 16; i++) {
            x.addSign(0, i, i % 4, i % 9, 0, i);
            x.addSign(1, 15 - i, 3 - i % 4, 8 - i % 9, 3, 29 - i);
        }
        return x;
    }

    private void reader(int promise, String returns, String name, Reader reader, int[] of0, int[] of1) {
        sentence(promise, returns);
        SignMasons x = leastAndGreatest();
        for (int sign = 0; sign < 16; sign++) {
            due(name + "(0, " + sign + ")", reader.of(x, 0, sign), of0[sign]);
            due(name + "(1, " + sign + ")", reader.of(x, 1, sign), of1[sign]);
        }
        x.forget(0, 0);
        x.join(7, 8);
        for (int sign = 0; sign < 15; sign++) {
            due(name + "(0, " + sign + ") after forget(0, 0)", reader.of(x, 0, sign), of0[sign + 1]);
        }
        unchanged(Sentences::rich, name + "(0, 0)", y -> reader.of(y, 0, 0));
        unchanged(Sentences::rich, name + "(2, 15)", y -> reader.of(y, 2, 15));
        sentence(promise, "Throws IndexOutOfBoundsException if there is no such lodge");
        noSuchLodge(name, (y, number) -> reader.of(y, number, 0));
        sentence(promise, "or sign of it");
        noSuchSign(name, (y, number) -> reader.of(y, 0, number));
    }

    private void promise13ItsHandshape() {
        reader(13, "Returns its handshape.", "shapeOf", SignMasons::shapeOf,
                new int[] {0, 1, 2, 3, 4, 5, 6, 7, 8, 9, 10, 11, 12, 13, 14, 15},
                new int[] {15, 14, 13, 12, 11, 10, 9, 8, 7, 6, 5, 4, 3, 2, 1, 0});
    }

    private void promise14ItsThumb() {
        reader(14, "Returns its thumb.", "thumbOf", SignMasons::thumbOf,
                new int[] {0, 1, 2, 3, 0, 1, 2, 3, 0, 1, 2, 3, 0, 1, 2, 3},
                new int[] {3, 2, 1, 0, 3, 2, 1, 0, 3, 2, 1, 0, 3, 2, 1, 0});
    }

    private void promise15ItsPlace() {
        reader(15, "Returns its place.", "placeOf", SignMasons::placeOf,
                new int[] {0, 1, 2, 3, 4, 5, 6, 7, 8, 0, 1, 2, 3, 4, 5, 6},
                new int[] {8, 7, 6, 5, 4, 3, 2, 1, 0, 8, 7, 6, 5, 4, 3, 2});
    }

    private void promise16ItsMeaning() {
        reader(16, "Returns its meaning.", "meaningOf", SignMasons::meaningOf,
                new int[] {0, 1, 2, 3, 4, 5, 6, 7, 8, 9, 10, 11, 12, 13, 14, 15},
                new int[] {29, 28, 27, 26, 25, 24, 23, 22, 21, 20, 19, 18, 17, 16, 15, 14});
    }

    private void promise17ItsSign() {
        sentence(17, "Returns its sign for it;");
        SignMasons x = leastAndGreatest();
        for (int sign = 0; sign < 16; sign++) {
            due("signFor(0, " + sign + ")", x.signFor(0, sign), sign);
            due("signFor(1, " + (29 - sign) + ")", x.signFor(1, 29 - sign), sign);
        }
        x.forget(0, 3);
        due("signFor(0, 2) before the one forgotten", x.signFor(0, 2), 2);
        due("signFor(0, 4) behind the one forgotten", x.signFor(0, 4), 3);
        due("signFor(0, 15), the last one", x.signFor(0, 15), 14);
        x.addSign(0, 0, 0, 0, 0, 3);
        due("signFor(0, 3), put there anew", x.signFor(0, 3), 15);
        unchanged(Sentences::rich, "signFor(0, 29)", y -> y.signFor(0, 29));
    }

    private void promise17NoneIsThere() {
        sentence(17, "-1 if there is none.");
        SignMasons x = leastAndGreatest();
        SignMasons empty = lodges(1);
        for (int meaning = 0; meaning < 30; meaning++) {
            due("signFor() of an empty book", empty.signFor(0, meaning), -1);
            if (meaning > 15) {
                due("signFor(0, " + meaning + ")", x.signFor(0, meaning), -1);
            }
            if (meaning < 14) {
                due("signFor(1, " + meaning + ")", x.signFor(1, meaning), -1);
            }
        }
        for (int sign = 15; sign >= 0; sign--) {
            x.forget(0, sign);
            due("signFor(0, " + sign + ") after forget(0, " + sign + ")", x.signFor(0, sign), -1);
        }
        unchanged(Sentences::rich, "signFor(3, 0)", y -> y.signFor(3, 0));
    }

    private void promise17NoSuchLodgeOrMeaning() {
        sentence(17, "Throws IndexOutOfBoundsException if there is no such lodge");
        noSuchLodge("signFor()", (x, number) -> x.signFor(number, 0));
        sentence(17, "or meaning is not 0 to 29");
        refusedOutside(29, Sentences::rich, "signFor(0, ..)", INDEX, (x, number) -> x.signFor(0, number));
        refusedOutside(29, Sentences::rich, "signFor(3, ..) of an empty book", INDEX,
                (x, number) -> x.signFor(3, number));
        refusedOutside(29, Sentences::full, "signFor(0, ..) of a full book", INDEX,
                (x, number) -> x.signFor(0, number));
        refusedOutside(29, Sentences::full, "signFor() of no lodge", INDEX, (x, number) -> x.signFor(1, number));
    }
}
