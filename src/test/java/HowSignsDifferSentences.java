/** The sentences of promises 18 to 22: how signs differ. */
final class HowSignsDifferSentences extends Sentences {
    HowSignsDifferSentences(Document document) {
        super(document);
    }

    @Override
    void testAll() {
        promise18HowFarApart();
        promise18NoSuchLodgeOrSign();
        promise19PairsAlike();
        promise19NoSuchLodge();
        promise20PairsByTheThumb();
        promise20NoSuchLodge();
        promise21HowFarTheClosest();
        promise21FewerThanTwo();
        promise21NoSuchLodge();
        promise22FromTheMostOthers();
        promise22TheSmallestNumber();
        promise22WithoutSigns();
        promise22NoSuchLodge();
    }

    /** One lodge with these signs: shape, thumb, place and movement of each. */
    private static SignMasons book(int[]... looks) {
        SignMasons x = lodges(1);
        for (int i = 0; i < looks.length; i++) {
            x.addSign(0, looks[i][0], looks[i][1], looks[i][2], looks[i][3], i);
        }
        return x;
    }

    private static int[] look(int shape, int thumb, int place, int movement) {
        return new int[] {shape, thumb, place, movement};
    }

    private void promise18HowFarApart() {
        sentence(18, "Returns how far they are apart.");
        SignMasons x = book(look(0, 0, 0, 0), look(15, 3, 8, 3), look(8, 0, 0, 0), look(0, 3, 0, 0),
                look(0, 0, 5, 0), look(0, 0, 0, 3), look(0, 0, 0, 0));
        int[] want = {0, 11, 1, 1, 3, 2, 0};
        for (int sign = 0; sign < 7; sign++) {
            due("apart(0, 0, " + sign + ")", x.apart(0, 0, sign), want[sign]);
            due("apart(0, " + sign + ", 0)", x.apart(0, sign, 0), want[sign]);
            due("apart(0, " + sign + ", " + sign + "), a sign from itself", x.apart(0, sign, sign), 0);
        }
        x.join(0, 5);
        due("apart(0, 0, 4) as the places are joined", x.apart(0, 0, 4), 0);
        x.join(8, 0);
        due("apart(0, 0, 1) as the places are joined", x.apart(0, 0, 1), 7);
        SignMasons full = full();
        due("apart(0, 0, 15) of a full book", full.apart(0, 0, 15), 4);
        due("apart(0, 15, 14) of a full book", full.apart(0, 15, 14), 1);
        unchanged(Sentences::rich, "apart(2, 3, 15)", y -> y.apart(2, 3, 15));
        unchanged(Sentences::rich, "apart(1, 0, 0)", y -> y.apart(1, 0, 0));
    }

    private void promise18NoSuchLodgeOrSign() {
        sentence(18, "Throws IndexOutOfBoundsException if there is no such lodge");
        noSuchLodge("apart()", (x, number) -> x.apart(number, 0, 0));
        sentence(18, "or sign of it");
        noSuchSign("apart() of the first", (x, number) -> x.apart(0, number, 0));
        noSuchSign("apart() of the second", (x, number) -> x.apart(0, 0, number));
        noSuchSign("apart() of both", (x, number) -> x.apart(0, number, number));
    }

    private void promise19PairsAlike() {
        sentence(19, "Returns how many pairs of signs of its book are alike.");
        due("of an empty book", lodges(1).alikePairs(0), 0);
        due("of one sign", book(look(1, 1, 1, 1)).alikePairs(0), 0);
        due("of two alike", book(look(1, 1, 1, 1), look(1, 1, 1, 1)).alikePairs(0), 1);
        due("of two with another finger", book(look(1, 1, 1, 1), look(3, 1, 1, 1)).alikePairs(0), 0);
        due("of two with another thumb", book(look(1, 1, 1, 1), look(1, 2, 1, 1)).alikePairs(0), 0);
        due("of two with another place", book(look(1, 1, 1, 1), look(1, 1, 2, 1)).alikePairs(0), 0);
        due("of two with another movement", book(look(1, 1, 1, 1), look(1, 1, 1, 2)).alikePairs(0), 0);
        SignMasons x = book(look(1, 1, 1, 1), look(1, 1, 2, 1), look(1, 1, 1, 1), look(1, 1, 2, 1), look(1, 1, 5, 1));
        due("of two twice", x.alikePairs(0), 2);
        x.join(1, 5);
        due("as 1 and 5 are joined", x.alikePairs(0), 4);
        x.join(5, 2);
        due("as 2 is joined too", x.alikePairs(0), 10);
        SignMasons full = lodges(2);
        for (int i = 0; i < 16; i++) {
            due("of " + i + " alike", full.alikePairs(1), i * (i - 1) / 2);
            full.addSign(1, 15, 3, 8, 3, i);
        }
        due("of a full book", full.alikePairs(1), 120);
        full.addSign(0, 15, 3, 8, 3, 0);
        due("of one sign, that is alike to some of another book", full.alikePairs(0), 0);
        full.forget(1, 15);
        due("of 15 that are left", full.alikePairs(1), 105);
        due("of a full book of others", full().alikePairs(0), 0);
        unchanged(Sentences::rich, "alikePairs(0)", y -> y.alikePairs(0));
        unchanged(Sentences::rich, "alikePairs(3)", y -> y.alikePairs(3));
    }

    private void promise19NoSuchLodge() {
        sentence(19, "Throws IndexOutOfBoundsException if there is no such lodge");
        noSuchLodge("alikePairs()", SignMasons::alikePairs);
    }

    private void promise20PairsByTheThumb() {
        sentence(20, "Returns how many pairs of signs of its book are 1 apart, and differ by the thumb.");
        due("of an empty book", lodges(1).thumbPairs(0), 0);
        due("of one sign", book(look(1, 1, 1, 1)).thumbPairs(0), 0);
        due("of two alike", book(look(1, 1, 1, 1), look(1, 1, 1, 1)).thumbPairs(0), 0);
        due("of two with thumbs 0 and 3", book(look(1, 0, 1, 1), look(1, 3, 1, 1)).thumbPairs(0), 1);
        due("of two with thumbs 2 and 1", book(look(1, 2, 1, 1), look(1, 1, 1, 1)).thumbPairs(0), 1);
        due("of two 1 apart by a finger", book(look(1, 1, 1, 1), look(0, 1, 1, 1)).thumbPairs(0), 0);
        due("of two 1 apart by a step", book(look(1, 1, 1, 1), look(1, 1, 2, 1)).thumbPairs(0), 0);
        due("of two with another movement", book(look(1, 1, 1, 1), look(1, 1, 1, 2)).thumbPairs(0), 0);
        due("of two 2 apart by thumb and finger", book(look(1, 1, 1, 1), look(0, 2, 1, 1)).thumbPairs(0), 0);
        due("of two 3 apart by thumb and movement", book(look(1, 1, 1, 1), look(1, 2, 1, 2)).thumbPairs(0), 0);
        SignMasons x = book(look(1, 1, 0, 1), look(1, 2, 8, 1));
        due("of two 5 apart by thumb and place", x.thumbPairs(0), 0);
        x.join(0, 8);
        due("of these as the places are joined", x.thumbPairs(0), 1);
        x.setThumb(0, 0, 2);
        due("of these with the same thumb", x.thumbPairs(0), 0);
        SignMasons full = lodges(2);
        for (int i = 0; i < 16; i++) {
            full.addSign(1, 15, i % 4, 8, 3, i);
        }
        due("of a full book, four with each thumb", full.thumbPairs(1), 96);
        full.addSign(0, 15, 0, 8, 3, 0);
        due("of one sign, with others in another book", full.thumbPairs(0), 0);
        full.forget(1, 15);
        due("of 15 that are left", full.thumbPairs(1), 84);
        due("of a full book with one thumb", full().thumbPairs(0), 0);
        unchanged(Sentences::rich, "thumbPairs(2)", y -> y.thumbPairs(2));
        unchanged(Sentences::rich, "thumbPairs(3)", y -> y.thumbPairs(3));
    }

    private void promise20NoSuchLodge() {
        sentence(20, "Throws IndexOutOfBoundsException if there is no such lodge");
        noSuchLodge("thumbPairs()", SignMasons::thumbPairs);
    }

    private void promise21HowFarTheClosest() {
        sentence(21, "Returns how far the two signs of its book that are the fewest apart are apart;");
        due("of two alike", book(look(1, 1, 1, 1), look(1, 1, 1, 1)).closest(0), 0);
        due("of two by a thumb", book(look(1, 1, 1, 1), look(1, 0, 1, 1)).closest(0), 1);
        due("of two the farthest apart", book(look(0, 0, 0, 0), look(15, 3, 8, 3)).closest(0), 11);
        int[][] far = {look(0, 0, 0, 0), look(15, 1, 8, 1), look(1, 2, 8, 2)};
        due("of three, the last two the closest", book(far).closest(0), 6);
        SignMasons x = book(far[1], far[2], far[0], look(3, 0, 0, 0));
        due("of four, the last two the closest", x.closest(0), 2);
        SignMasons y = book(far[0], far[1], far[2], look(0, 0, 0, 3));
        due("of four, the first and the last the closest", y.closest(0), 2);
        y.forget(0, 3);
        due("of these without the last", y.closest(0), 6);
        y.join(0, 8);
        due("as the places are joined", y.closest(0), 4);
        due("of a full book", full().closest(0), 1);
        unchanged(Sentences::rich, "closest(2)", z -> z.closest(2));
    }

    private void promise21FewerThanTwo() {
        sentence(21, "0 with fewer than two.");
        due("of an empty book", lodges(1).closest(0), 0);
        due("of one sign", book(look(15, 3, 8, 3)).closest(0), 0);
        SignMasons x = book(look(0, 0, 0, 0), look(15, 3, 8, 3));
        x.forget(0, 0);
        due("of one sign that is left", x.closest(0), 0);
        x.forget(0, 0);
        due("of none that are left", x.closest(0), 0);
        unchanged(Sentences::rich, "closest(1)", y -> y.closest(1));
        unchanged(Sentences::rich, "closest(3)", y -> y.closest(3));
    }

    private void promise21NoSuchLodge() {
        sentence(21, "Throws IndexOutOfBoundsException if there is no such lodge");
        noSuchLodge("closest()", SignMasons::closest);
    }

    private void promise22FromTheMostOthers() {
        sentence(22, "Returns the sign that is 3 apart at the most from the most others of its book");
        int[] middle = look(0, 0, 0, 0);
        int[] apart3 = look(7, 0, 0, 0);
        int[] apart4 = look(15, 0, 0, 0);
        int[] apart3Other = look(0, 1, 0, 3);
        due("far one, then two 3 apart", book(look(15, 3, 8, 3), middle, apart3).mostMistaken(0), 1);
        due("far one, then two 4 apart", book(look(15, 3, 8, 3), middle, apart4).mostMistaken(0), 0);
        due("the last one near two others that are not near each other",
                book(apart3, apart3Other, middle).mostMistaken(0), 2);
        due("the middle one near two others that are not near each other",
                book(apart3, middle, apart3Other).mostMistaken(0), 1);
        due("alike ones count as others", book(look(15, 3, 8, 3), middle, middle).mostMistaken(0), 1);
        SignMasons joined = book(look(15, 3, 4, 3), look(0, 0, 0, 0), look(0, 0, 8, 0));
        due("two 4 apart by places", joined.mostMistaken(0), 0);
        joined.join(8, 0);
        due("these as the places are joined", joined.mostMistaken(0), 1);
        SignMasons full = full();
        due("of a full book, each near all but one", full.mostMistaken(0), 0);
        full.forget(0, 0);
        due("without shape 0 shape 15 is near all", full.mostMistaken(0), 14);
        unchanged(Sentences::rich, "mostMistaken(2)", y -> y.mostMistaken(2));
    }

    private void promise22TheSmallestNumber() {
        sentence(22, "of several the smallest number;");
        due("one sign", book(look(15, 3, 8, 3)).mostMistaken(0), 0);
        due("two far apart", book(look(0, 0, 0, 0), look(15, 3, 8, 3)).mostMistaken(0), 0);
        due("two near", book(look(0, 0, 0, 0), look(0, 3, 0, 0)).mostMistaken(0), 0);
        due("two near pairs behind a far one", book(look(15, 3, 8, 3), look(0, 0, 0, 0), look(0, 1, 0, 0),
                look(15, 1, 2, 1), look(15, 2, 2, 1)).mostMistaken(0), 1);
        SignMasons x = lodges(2);
        for (int i = 0; i < 16; i++) {
            x.addSign(1, 9, i % 4, 4, 2, i);
        }
        due("sixteen near all", x.mostMistaken(1), 0);
        unchanged(Sentences::rich, "mostMistaken(1)", y -> y.mostMistaken(1));
    }

    private void promise22WithoutSigns() {
        sentence(22, "-1 without signs.");
        due("of an empty book", lodges(1).mostMistaken(0), -1);
        due("of an empty book beside a full one", emptyBesideFull().mostMistaken(0), -1);
        SignMasons x = book(look(1, 1, 1, 1));
        x.forget(0, 0);
        due("of a book whose only sign was forgotten", x.mostMistaken(0), -1);
        unchanged(Sentences::rich, "mostMistaken(3)", y -> y.mostMistaken(3));
    }

    private void promise22NoSuchLodge() {
        sentence(22, "Throws IndexOutOfBoundsException if there is no such lodge");
        noSuchLodge("mostMistaken()", SignMasons::mostMistaken);
    }
}
