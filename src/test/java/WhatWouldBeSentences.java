import java.math.BigInteger;

/** The sentences of promises 28 to 32: what would be. */
final class WhatWouldBeSentences extends Sentences {
    WhatWouldBeSentences(Document document) {
        super(document);
    }

    @Override
    void testAll() {
        promise28TheFarthestFromTheNearest();
        promise28OfSeveralTheSmallest();
        promise28NoOtherSign();
        promise28NothingIsChanged();
        promise28NoSuchLodgeOrSign();
        promise29ThatItCan();
        promise29UnderstoodIsTheGreatest();
        promise29OfSeveralTheSmallest();
        promise29CanBorrowNone();
        promise29BothAreTheSame();
        promise29NothingIsChanged();
        promise29NoSuchLodge();
        promise30HowManyPairs();
        promise30InAllBooksTogether();
        promise30NothingIsChanged();
        promise30IsNot0To8();
        promise31TheMean();
        promise31WithoutLodges();
        promise32StartsWith2099();
        promise32WrapsAround();
        promise32TheNumbers();
        promise32OfEachLodge();
        promise32OfEachPairOfLodges();
        promise32OfEachSign();
        promise32ReturnsD();
    }

    // ---- 28

    /** The sign in question is number 0; others like it, one finger off, have the thumbs of the bits. */
    private static SignMasons thumbsAround(int own, int bits) {
        SignMasons x = lodges(1);
        x.addSign(0, 0, own, 4, 2, 0);
        for (int thumb = 3; thumb >= 0; thumb--) {
            if ((bits >> thumb & 1) == 1) {
                x.addSign(0, 1 << thumb, thumb, 4, 2, 10 + thumb);
            }
        }
        return x;
    }

    private void promise28TheFarthestFromTheNearest() {
        sentence(28, "Returns the thumb, 0 to 3, with which it is the farthest from that sign of its book "
                + "that is the nearest to it then,");
        for (int own = 0; own < 4; own++) {
            for (int free = 0; free < 4; free++) {
                SignMasons x = thumbsAround(own, 15 - (1 << free));
                due("bestThumb(0, 0) of thumb " + own + " with " + free + " free", x.bestThumb(0, 0), free);
            }
        }
        SignMasons x = lodges(1);
        x.addSign(0, 1, 0, 0, 0, 0);
        x.addSign(0, 0, 3, 0, 0, 1);
        due("bestThumb(0, 1), one with thumb 0", x.bestThumb(0, 1), 1);
        x.addSign(0, 0, 1, 1, 0, 2);
        due("bestThumb(0, 1), another with thumb 1", x.bestThumb(0, 1), 2);
        x.addSign(0, 15, 2, 8, 3, 3);
        due("bestThumb(0, 1), the nearest counts, not a far one with thumb 2", x.bestThumb(0, 1), 2);
        x.addSign(0, 0, 0, 0, 1, 4);
        due("bestThumb(0, 1), nor one that is 2 apart", x.bestThumb(0, 1), 2);
        SignMasons joined = lodges(1);
        joined.addSign(0, 0, 0, 0, 0, 0);
        joined.addSign(0, 0, 0, 8, 0, 1);
        joined.addSign(0, 0, 1, 1, 0, 2);
        due("bestThumb(0, 0), the one with thumb 1 is the nearest", joined.bestThumb(0, 0), 0);
        joined.join(0, 8);
        due("bestThumb(0, 0), the other is, as the places are joined", joined.bestThumb(0, 0), 1);
    }

    private void promise28OfSeveralTheSmallest() {
        sentence(28, "of several the smallest;");
        int[] firstFree = {0, 1, 0, 2, 0, 1, 0, 3, 0, 1, 0, 2, 0, 1, 0, 0};
        for (int own = 0; own < 4; own++) {
            for (int bits = 1; bits < 16; bits++) {
                due("bestThumb(0, 0) of thumb " + own + " with others of the bits " + bits,
                        thumbsAround(own, bits).bestThumb(0, 0), firstFree[bits]);
            }
        }
        SignMasons full = full();
        full.setThumb(0, 15, 3);
        due("bestThumb(0, 15) of a full book whose others have thumb 0", full.bestThumb(0, 15), 1);
        due("bestThumb(0, 0) of a full book", full.bestThumb(0, 0), 1);
    }

    private void promise28NoOtherSign() {
        sentence(28, "its own one, if there is no other sign");
        for (int thumb = 0; thumb < 4; thumb++) {
            SignMasons x = lodges(2);
            x.addSign(0, 15, thumb, 8, 3, 29);
            fill(x, 1);
            due("bestThumb(0, 0)", x.bestThumb(0, 0), thumb);
            x.addSign(0, 15, thumb, 8, 3, 28);
            due("bestThumb(0, 0) with another", x.bestThumb(0, 0), thumb == 0 ? 1 : 0);
            x.forget(0, 0);
            due("bestThumb(0, 0) of the one that is left", x.bestThumb(0, 0), thumb);
        }
    }

    private void promise28NothingIsChanged() {
        sentence(28, "(nothing is changed).");
        unchanged(Sentences::rich, "bestThumb(0, 0)", x -> x.bestThumb(0, 0));
        unchanged(Sentences::rich, "bestThumb(0, 2)", x -> x.bestThumb(0, 2));
        unchanged(Sentences::rich, "bestThumb(1, 0)", x -> x.bestThumb(1, 0));
        unchanged(Sentences::rich, "bestThumb(2, 15)", x -> x.bestThumb(2, 15));
    }

    private void promise28NoSuchLodgeOrSign() {
        sentence(28, "Throws IndexOutOfBoundsException if there is no such lodge");
        noSuchLodge("bestThumb()", (x, number) -> x.bestThumb(number, 0));
        sentence(28, "or sign of it");
        noSuchSign("bestThumb()", (x, number) -> x.bestThumb(0, number));
    }

    // ---- 29

    /** What bestToBorrow() should say, found by borrowing each sign in an object of its own. */
    private static int bestTried(Scene scene, int from, int to) {
        int best = -1;
        int most = -1;
        for (int sign = 0; sign < scene.make().signsOf(from); sign++) {
            SignMasons x = scene.make();
            try {
                x.borrow(from, sign, to);
                int understood = x.understood(from, to);
                if (understood > most) {
                    most = understood;
                    best = sign;
                }
            } catch (IllegalArgumentException | IllegalStateException e) {
                continue;
            }
        }
        return best;
    }

    private void dueBest(Scene scene, int from, int to, int want) {
        String call = "bestToBorrow(" + from + ", " + to + ")";
        due(call, scene.make().bestToBorrow(from, to), want);
        due(call + " by trying all", bestTried(scene, from, to), want);
    }

    private void promise29ThatItCan() {
        sentence(29, "Returns the sign of the first one that the second one had best borrow now, "
                + "of those that it can,");
        Scene scene = () -> {
            SignMasons x = lodges(2);
            // The first is one that lodge 1 has a sign for, the second alike to some with each thumb.
            x.addSign(0, 0, 0, 0, 0, 10);
            x.addSign(0, 15, 2, 8, 0, 20);
            x.addSign(0, 0, 0, 8, 3, 21);
            x.addSign(1, 9, 3, 2, 3, 10);
            for (int thumb = 0; thumb < 4; thumb++) {
                x.addSign(1, 15, thumb, 8, 0, thumb);
            }
            return x;
        };
        dueBest(scene, 0, 1, 2);
        Scene moved = () -> {
            SignMasons x = scene.make();
            x.forget(1, 2);
            return x;
        };
        // With thumb 1 free the second one can be borrowed, but would be read as another one.
        dueBest(moved, 0, 1, 2);
        Scene almostFull = () -> {
            SignMasons x = emptyBesideFull();
            x.addSign(0, 9, 1, 8, 3, 15);
            x.addSign(0, 9, 1, 8, 2, 16);
            x.forget(1, 14);
            return x;
        };
        dueBest(almostFull, 0, 1, 1);
        Scene known = () -> {
            SignMasons x = peopled(3);
            x.borrow(1, 0, 2);
            return x;
        };
        dueBest(known, 1, 2, 1);
    }

    private void promise29UnderstoodIsTheGreatest() {
        sentence(29, "so that understood() from the first one to the second one is the greatest,");
        Scene second = () -> {
            SignMasons x = lodges(2);
            x.addSign(0, 0, 0, 0, 0, 10);
            x.addSign(0, 15, 2, 8, 0, 20);
            x.addSign(1, 0, 0, 0, 0, 11);
            return x;
        };
        // The first would move its thumb and be read as 11 still.
        dueBest(second, 0, 1, 1);
        Scene blurs = () -> {
            SignMasons x = emptyBesideFull();
            x.forget(1, 15);
            x.addSign(0, 5, 2, 0, 0, 20);
            x.addSign(0, 15, 0, 0, 0, 21);
            x.addSign(0, 5, 1, 0, 0, 5);
            return x;
        };
        // With the first borrowed, the third would be as near to it as to the reader's own for 5.
        dueBest(blurs, 0, 1, 1);
        Scene all = Sentences::rich;
        for (int from = 0; from < 4; from++) {
            for (int to = 0; to < 4; to++) {
                dueBest(all, from, to, bestTried(all, from, to));
            }
        }
    }

    private void promise29OfSeveralTheSmallest() {
        sentence(29, "of several the smallest number;");
        dueBest(Sentences::fullBesideOne, 0, 1, 0);
        dueBest(() -> peopled(4), 3, 0, 0);
        Scene unread = () -> {
            SignMasons x = lodges(2);
            x.addSign(0, 6, 0, 4, 0, 21);
            x.addSign(0, 9, 3, 0, 3, 22);
            x.addSign(1, 6, 0, 4, 0, 10);
            x.addSign(1, 9, 3, 0, 3, 11);
            return x;
        };
        // Each is read as the one that is there, so that understood() stays 0 with both.
        dueBest(unread, 0, 1, 0);
    }

    private void promise29CanBorrowNone() {
        sentence(29, "-1 if it can borrow none,");
        dueBest(() -> lodges(2), 0, 1, -1);
        dueBest(Sentences::emptyBesideFull, 0, 1, -1);
        dueBest(Sentences::fullBesideOne, 1, 0, -1);
        dueBest(() -> {
            SignMasons x = peopled(2);
            x.borrow(0, 0, 1);
            x.borrow(0, 1, 1);
            return x;
        }, 0, 1, -1);
        dueBest(() -> {
            SignMasons x = lodges(2);
            x.addSign(0, 6, 2, 4, 1, 10);
            for (int thumb = 0; thumb < 4; thumb++) {
                x.addSign(1, 6, thumb, 4, 1, thumb);
            }
            return x;
        }, 0, 1, -1);
    }

    private void promise29BothAreTheSame() {
        sentence(29, "or both are the same");
        for (int lodge = 0; lodge < 4; lodge++) {
            due("bestToBorrow(" + lodge + ", " + lodge + ")", rich().bestToBorrow(lodge, lodge), -1);
        }
        due("bestToBorrow(0, 0) with one lodge", peopled(1).bestToBorrow(0, 0), -1);
    }

    private void promise29NothingIsChanged() {
        sentence(29, "(nothing is changed).");
        for (int from = 0; from < 4; from++) {
            for (int to = 0; to < 4; to++) {
                int lender = from;
                int borrower = to;
                unchanged(Sentences::rich, "bestToBorrow(" + from + ", " + to + ")",
                        x -> x.bestToBorrow(lender, borrower));
            }
        }
        unchanged(Sentences::emptyBesideFull, "bestToBorrow(1, 0)", x -> x.bestToBorrow(1, 0));
    }

    private void promise29NoSuchLodge() {
        sentence(29, "Throws IndexOutOfBoundsException if there is no such lodge");
        noSuchLodge("bestToBorrow() from", (x, number) -> x.bestToBorrow(number, 0));
        noSuchLodge("bestToBorrow() to", (x, number) -> x.bestToBorrow(0, number));
        noSuchLodge("bestToBorrow() from and to", (x, number) -> x.bestToBorrow(number, number));
    }

    // ---- 30

    /** One lodge with the same sign in places 0, 1, 2, 2, 8, and signs that differ by more than the place. */
    private static SignMasons oneSignInPlaces() {
        SignMasons x = lodges(1);
        int[] places = {0, 1, 2, 2, 8};
        for (int i = 0; i < 5; i++) {
            x.addSign(0, 3, 1, places[i], 2, i);
        }
        x.addSign(0, 7, 1, 0, 2, 10);
        x.addSign(0, 3, 2, 1, 2, 11);
        x.addSign(0, 3, 1, 2, 3, 12);
        return x;
    }

    private void promise30HowManyPairs() {
        sentence(30, "Returns how many pairs of signs would be alike");
        SignMasons x = oneSignInPlaces();
        due("alikeIfJoined(0, 1)", x.alikeIfJoined(0, 1), 2);
        due("alikeIfJoined(1, 0)", x.alikeIfJoined(1, 0), 2);
        due("alikeIfJoined(1, 2)", x.alikeIfJoined(1, 2), 3);
        due("alikeIfJoined(8, 2)", x.alikeIfJoined(8, 2), 3);
        due("alikeIfJoined(4, 5), places of no sign", x.alikeIfJoined(4, 5), 1);
        due("alikeIfJoined(2, 2), a place with itself", x.alikeIfJoined(2, 2), 1);
        x.join(0, 4);
        x.join(8, 5);
        due("alikeIfJoined(4, 5) of two groups", x.alikeIfJoined(4, 5), 2);
        due("alikeIfJoined(5, 4) of two groups", x.alikeIfJoined(5, 4), 2);
        due("alikeIfJoined(0, 4), which are joined already", x.alikeIfJoined(0, 4), 1);
        x.join(4, 2);
        due("alikeIfJoined(5, 4) of two groups", x.alikeIfJoined(5, 4), 6);
        due("alikeIfJoined(3, 7) of neither", x.alikeIfJoined(3, 7), 3);
        due("alikeIfJoined(1, 5)", x.alikeIfJoined(1, 5), 4);
        for (int one = 0; one < 9; one++) {
            for (int other = 0; other < 9; other++) {
                SignMasons joined = rich();
                joined.join(one, other);
                int pairs = 0;
                for (int lodge = 0; lodge < 4; lodge++) {
                    pairs += joined.alikePairs(lodge);
                }
                due("alikeIfJoined(" + one + ", " + other + ")", rich().alikeIfJoined(one, other), pairs);
            }
        }
    }

    private void promise30InAllBooksTogether() {
        sentence(30, ", in all books together, if both were joined");
        due("alikeIfJoined(0, 8) without lodges", new SignMasons().alikeIfJoined(0, 8), 0);
        due("alikeIfJoined(0, 8) with empty books", lodges(4).alikeIfJoined(0, 8), 0);
        SignMasons x = lodges(4);
        for (int lodge = 0; lodge < 4; lodge++) {
            x.addSign(lodge, 9, 1, 0, 1, 0);
            due("alikeIfJoined(0, 8) with a second sign in " + lodge + " books", x.alikeIfJoined(0, 8), lodge);
            x.addSign(lodge, 9, 1, 8, 1, 1);
        }
        due("alikeIfJoined(0, 8) with one pair in each book", x.alikeIfJoined(0, 8), 4);
        due("alikeIfJoined(0, 7)", x.alikeIfJoined(0, 7), 0);
        for (int lodge = 0; lodge < 4; lodge++) {
            for (int sign = 2; sign < 16; sign++) {
                x.addSign(lodge, 9, 1, sign % 2 * 8, 1, sign);
            }
        }
        due("alikeIfJoined(0, 8) with four full books of one sign", x.alikeIfJoined(0, 8), 480);
        due("alikeIfJoined(0, 7) with four full books of two", x.alikeIfJoined(0, 7), 224);
    }

    private void promise30NothingIsChanged() {
        sentence(30, "(nothing is changed).");
        unchanged(Sentences::rich, "alikeIfJoined(1, 2)", x -> x.alikeIfJoined(1, 2));
        unchanged(Sentences::rich, "alikeIfJoined(8, 4)", x -> x.alikeIfJoined(8, 4));
        unchanged(WhatWouldBeSentences::oneSignInPlaces, "alikeIfJoined(0, 2)", x -> x.alikeIfJoined(0, 2));
    }

    private void promise30IsNot0To8() {
        sentence(30, "Throws IndexOutOfBoundsException if one of them is not 0 to 8");
        refusedOutside(8, Sentences::rich, "alikeIfJoined() of the first", INDEX,
                (x, number) -> x.alikeIfJoined(number, 0));
        refusedOutside(8, Sentences::rich, "alikeIfJoined() of the second", INDEX,
                (x, number) -> x.alikeIfJoined(0, number));
        refusedOutside(8, SignMasons::new, "alikeIfJoined() of both, without lodges", INDEX,
                (x, number) -> x.alikeIfJoined(number, number));
    }

    // ---- 31

    private void promise31TheMean() {
        sentence(31, "Returns the mean number of signs in books;");
        due("one lodge without signs", lodges(1).meanSigns(), 0.0);
        due("four lodges without signs", lodges(4).meanSigns(), 0.0);
        due("a full book", full().meanSigns(), 16.0);
        due("0 and 16", emptyBesideFull().meanSigns(), 8.0);
        due("16 and 1, not cut to a whole number", fullBesideOne().meanSigns(), 8.5);
        due("3, 1, 16 and 0", rich().meanSigns(), 5.0);
        SignMasons x = lodges(3);
        x.addSign(1, 1, 1, 1, 1, 1);
        due("1 of three", x.meanSigns(), 1.0 / 3.0);
        x.addSign(2, 1, 1, 1, 1, 1);
        due("2 of three", x.meanSigns(), 2.0 / 3.0);
        x.addLodge();
        due("2 of four", x.meanSigns(), 0.5);
        x.forget(1, 0);
        due("1 of four", x.meanSigns(), 0.25);
        unchanged(Sentences::rich, "meanSigns()", SignMasons::meanSigns);
    }

    private void promise31WithoutLodges() {
        sentence(31, "0 without lodges.");
        due("meanSigns() of a new object", new SignMasons().meanSigns(), 0.0);
        SignMasons x = new SignMasons();
        x.join(0, 1);
        due("meanSigns() with places joined", x.meanSigns(), 0.0);
        unchanged(SignMasons::new, "meanSigns()", SignMasons::meanSigns);
    }

    // ---- 32

    /** A number d that takes on others as the document says, but in numbers without an end. */
    private static final class Sum {
        private BigInteger d = BigInteger.valueOf(2099);

        private Sum take(long... numbers) {
            for (long x : numbers) {
                d = d.multiply(BigInteger.valueOf(31)).add(BigInteger.valueOf(x));
            }
            return this;
        }

        private long wrapped() {
            return d.longValue();
        }

        private boolean fitsLong() {
            return d.bitLength() < 64;
        }
    }

    /** The sum over all that the document names, told by another object of the same scene. */
    private static Sum sum(Scene scene) {
        SignMasons x = scene.make();
        int lodges = x.lodges();
        Sum sum = new Sum().take(lodges, x.groups());
        for (int lodge = 0; lodge < lodges; lodge++) {
            int signs = x.signsOf(lodge);
            sum.take(signs, x.alikePairs(lodge), x.thumbPairs(lodge), x.closest(lodge), x.mostMistaken(lodge));
            for (int to = 0; to < lodges; to++) {
                sum.take(x.understood(lodge, to), x.misread(lodge, to), x.bestToBorrow(lodge, to));
            }
            for (int sign = 0; sign < signs; sign++) {
                sum.take(x.shapeOf(lodge, sign), x.thumbOf(lodge, sign), x.placeOf(lodge, sign),
                        x.meaningOf(lodge, sign), x.bestThumb(lodge, sign));
            }
        }
        return sum;
    }

    private void promise32StartsWith2099() {
        sentence(32, "Computes a checksum. A number d starts with 2099; "
                + "for each of the following numbers x, d becomes d * 31 + x,");
        due("digest() of a new object", new SignMasons().digest(), (2099L * 31 + 0) * 31 + 9);
        SignMasons x = new SignMasons();
        x.join(0, 1);
        due("digest() with 8 groups", x.digest(), (2099L * 31 + 0) * 31 + 8);
    }

    private void promise32WrapsAround() {
        sentence(32, "which wraps around as a 64-bit integer:");
        due("the sum of one empty lodge fits", sum(() -> lodges(1)).fitsLong(), true);
        due("the sum of two lodges fits", sum(() -> lodges(2)).fitsLong(), false);
        due("digest() of one empty lodge", lodges(1).digest(), sum(() -> lodges(1)).wrapped());
        due("digest() of two lodges", lodges(2).digest(), sum(() -> lodges(2)).wrapped());
        boolean below = false;
        boolean above = false;
        for (int lodges = 1; lodges <= 4; lodges++) {
            for (int extra = 0; extra < 9; extra++) {
                int there = lodges;
                int place = extra;
                Scene scene = () -> {
                    SignMasons x = peopled(there);
                    x.addSign(0, 1, 2, place, 3, 20);
                    return x;
                };
                long d = scene.make().digest();
                due("digest() of " + lodges + " lodges and a sign in place " + extra, d, sum(scene).wrapped());
                below |= d < 0;
                above |= d > 0;
            }
        }
        due("some of these wrap to less than 0 and some to more", below && above, true);
        Scene full = () -> {
            SignMasons x = lodges(4);
            for (int lodge = 0; lodge < 4; lodge++) {
                fill(x, lodge);
            }
            return x;
        };
        due("digest() of four full books", full.make().digest(), sum(full).wrapped());
    }

    private void promise32TheNumbers() {
        sentence(32, "lodges(), groups();");
        SignMasons x = lodges(1);
        x.join(7, 8);
        x.join(8, 6);
        due("digest() with 1 and 7", x.digest(), new Sum().take(1, 7).take(0, 0, 0, 0, -1).take(0, 0, -1).wrapped());
    }

    private void promise32OfEachLodge() {
        sentence(32, "then for each lodge signsOf(), alikePairs(), thumbPairs(), closest(), mostMistaken(),");
        SignMasons x = lodges(1);
        x.addSign(0, 15, 3, 8, 3, 29);
        x.addSign(0, 0, 0, 0, 0, 5);
        x.addSign(0, 0, 2, 0, 2, 6);
        due("digest() of three signs, two of them 3 apart", x.digest(),
                new Sum().take(1, 9).take(3, 0, 0, 3, 1).take(3, 0, -1)
                        .take(15, 3, 8, 29, 1).take(0, 0, 0, 5, 0).take(0, 2, 0, 6, 1).wrapped());
    }

    private void promise32OfEachPairOfLodges() {
        sentence(32, "then for each lodge understood() and misread() from this one to that one, "
                + "and bestToBorrow() from this one to that one;");
        SignMasons x = lodges(3);
        x.addSign(0, 0, 0, 0, 0, 5);
        x.addSign(0, 15, 1, 8, 1, 6);
        x.addSign(1, 15, 1, 8, 1, 7);
        x.addSign(1, 0, 0, 0, 0, 5);
        Sum sum = new Sum().take(3, 9);
        sum.take(2, 0, 0, 11, 0).take(2, 0, -1).take(1, 1, 1).take(0, 0, 0);
        sum.take(0, 0, 0, 5, 0).take(15, 1, 8, 6, 1);
        sum.take(2, 0, 0, 11, 0).take(1, 1, 0).take(2, 0, -1).take(0, 0, 0);
        sum.take(15, 1, 8, 7, 1).take(0, 0, 0, 5, 0);
        sum.take(0, 0, 0, 0, -1).take(0, 0, -1).take(0, 0, -1).take(0, 0, -1);
        due("digest() of three lodges", x.digest(), sum.wrapped());
    }

    private void promise32OfEachSign() {
        sentence(32, "then for each sign of it shapeOf(), thumbOf(), placeOf(), meaningOf(), bestThumb().");
        SignMasons x = lodges(1);
        x.addSign(0, 15, 3, 8, 2, 29);
        due("digest() of one sign", x.digest(),
                new Sum().take(1, 9).take(1, 0, 0, 0, 0).take(1, 0, -1).take(15, 3, 8, 29, 3).wrapped());
        x.addSign(0, 15, 3, 8, 2, 0);
        due("digest() of two that are alike", x.digest(), new Sum().take(1, 9).take(2, 1, 0, 0, 0).take(0, 0, -1)
                .take(15, 3, 8, 29, 0).take(15, 3, 8, 0, 0).wrapped());
    }

    private void promise32ReturnsD() {
        sentence(32, "Returns d.");
        due("digest()", rich().digest(), sum(Sentences::rich).wrapped());
        due("digest() of a full book", full().digest(), sum(Sentences::full).wrapped());
        due("digest() with one forgotten", lastForgotten().digest(), sum(Sentences::lastForgotten).wrapped());
        unchanged(Sentences::rich, "digest()", SignMasons::digest);
        unchanged(SignMasons::new, "digest()", SignMasons::digest);
    }
}
