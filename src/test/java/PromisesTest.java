import java.util.function.LongSupplier;

/** For each promise of the document: ordinary calls, edges and wrong arguments, worked out by hand. */
public final class PromisesTest {
    private static final Class<?> INDEX = IndexOutOfBoundsException.class;
    private static final Class<?> ARGUMENT = IllegalArgumentException.class;
    private static final Class<?> STATE = IllegalStateException.class;
    private static final int[] OUTSIDE = {-1, Integer.MIN_VALUE, Integer.MAX_VALUE};

    private static int wrong = 0;
    private static int promise = 0;

    private static void due(String call, long got, long want) {
        if (got != want) {
            report(call, String.valueOf(got), String.valueOf(want));
        }
    }

    private static void due(String call, boolean got, boolean want) {
        if (got != want) {
            report(call, String.valueOf(got), String.valueOf(want));
        }
    }

    private static void dueDouble(String call, double got, double want) {
        if (got != want) {
            report(call, String.valueOf(got), String.valueOf(want));
        }
    }

    private static void report(String call, String got, String want) {
        wrong++;
        System.out.println("promise " + promise + ": " + call + " answered " + got + ", due is " + want);
    }

    /** The call throws just this exception, and the checksum is as before; SentencesTest compares all. */
    private static void dueThrown(SignMasons x, String call, Class<?> want, LongSupplier run) {
        long before = x.digest();
        String got;
        try {
            got = String.valueOf(run.getAsLong());
        } catch (RuntimeException e) {
            got = e.getClass().getName();
        }
        if (!got.equals(want.getName())) {
            report(call, got, want.getName());
        }
        if (x.digest() != before) {
            report(call, "with a change", "no change");
        }
    }

    private static SignMasons withLodges(int lodges) {
        SignMasons x = new SignMasons();
        for (int i = 0; i < lodges; i++) {
            x.addLodge();
        }
        return x;
    }

    /** Fills a book with 16 signs for the meanings 0 to 15, of the shapes 0 to 15. */
    private static void fill(SignMasons x, int lodge) {
        for (int i = 0; i < 16; i++) {
            x.addSign(lodge, i, 0, 0, 0, i);
        }
    }

    private static void newObject() {
        promise = 1;
        SignMasons x = new SignMasons();
        due("lodges()", x.lodges(), 0);
        due("groups()", x.groups(), 9);
        for (int one = 0; one < 9; one++) {
            for (int other = 0; other < 9; other++) {
                due("areJoined(" + one + ", " + other + ")", x.areJoined(one, other), one == other);
            }
        }
        SignMasons y = new SignMasons();
        y.addLodge();
        y.join(0, 1);
        due("lodges() of the other object", x.lodges(), 0);
        due("groups() of the other object", x.groups(), 9);
    }

    private static void addLodge() {
        promise = 2;
        SignMasons x = new SignMasons();
        for (int i = 0; i < 4; i++) {
            due("addLodge()", x.addLodge(), i);
            due("signsOf()", x.signsOf(i), 0);
        }
        dueThrown(x, "a fifth addLodge()", STATE, x::addLodge);
        due("lodges()", x.lodges(), 4);
    }

    private static void addSign() {
        promise = 3;
        SignMasons x = withLodges(2);
        due("first", x.addSign(0, 15, 3, 8, 3, 29), 0);
        due("alike to another", x.addSign(0, 15, 3, 8, 3, 28), 1);
        due("least of all", x.addSign(0, 0, 0, 0, 0, 0), 2);
        due("other lodge, same meaning", x.addSign(1, 7, 1, 4, 2, 29), 0);
        due("signsOf(0)", x.signsOf(0), 3);
        due("shape", x.shapeOf(0, 0), 15);
        due("thumb", x.thumbOf(0, 0), 3);
        due("place", x.placeOf(0, 0), 8);
        due("meaning", x.meaningOf(0, 0), 29);
        due("movement", x.readShown(15, 3, 8, 3, 0), -1);
        due("movement alone", x.readShown(7, 1, 4, 2, 1), 29);
        due("movement 2 and thumb 1 more", x.readShown(7, 0, 4, 0, 1), 29);
        due("movement 2 and 2 more", x.readShown(4, 1, 4, 0, 1), -1);

        dueThrown(x, "lodge 2", INDEX, () -> x.addSign(2, 0, 0, 0, 0, 1));
        dueThrown(x, "shape 16", ARGUMENT, () -> x.addSign(0, 16, 0, 0, 0, 1));
        dueThrown(x, "thumb 4", ARGUMENT, () -> x.addSign(0, 0, 4, 0, 0, 1));
        dueThrown(x, "place 9", ARGUMENT, () -> x.addSign(0, 0, 0, 9, 0, 1));
        dueThrown(x, "movement 4", ARGUMENT, () -> x.addSign(0, 0, 0, 0, 4, 1));
        dueThrown(x, "meaning 30", ARGUMENT, () -> x.addSign(0, 0, 0, 0, 0, 30));
        for (int out : OUTSIDE) {
            dueThrown(x, "lodge " + out, INDEX, () -> x.addSign(out, 0, 0, 0, 0, 1));
            dueThrown(x, "shape " + out, ARGUMENT, () -> x.addSign(0, out, 0, 0, 0, 1));
            dueThrown(x, "thumb " + out, ARGUMENT, () -> x.addSign(0, 0, out, 0, 0, 1));
            dueThrown(x, "place " + out, ARGUMENT, () -> x.addSign(0, 0, 0, out, 0, 1));
            dueThrown(x, "movement " + out, ARGUMENT, () -> x.addSign(0, 0, 0, 0, out, 1));
            dueThrown(x, "meaning " + out, ARGUMENT, () -> x.addSign(0, 0, 0, 0, 0, out));
            dueThrown(x, "all wrong: the lodge first", INDEX, () -> x.addSign(out, out, out, out, out, out));
        }
        dueThrown(x, "a second for the meaning", STATE, () -> x.addSign(0, 1, 1, 1, 1, 29));

        SignMasons full = withLodges(1);
        fill(full, 0);
        due("16 signs", full.signsOf(0), 16);
        dueThrown(full, "a 17th", STATE, () -> full.addSign(0, 0, 0, 0, 0, 16));
        dueThrown(full, "a 17th with thumb 4", ARGUMENT, () -> full.addSign(0, 0, 4, 0, 0, 16));
        dueThrown(full, "a 17th with meaning 30", ARGUMENT, () -> full.addSign(0, 0, 0, 0, 0, 30));
        dueThrown(full, "a 17th of no lodge", INDEX, () -> full.addSign(1, 0, 0, 0, 0, 16));
    }

    private static void forget() {
        promise = 4;
        SignMasons x = withLodges(2);
        x.addSign(0, 1, 1, 1, 1, 11);
        x.addSign(0, 2, 2, 2, 2, 12);
        x.addSign(0, 3, 3, 3, 3, 13);
        x.addSign(1, 4, 0, 4, 0, 11);
        due("forget(0, 1)", x.forget(0, 1), 12);
        due("signsOf(0)", x.signsOf(0), 2);
        due("before it", x.meaningOf(0, 0), 11);
        due("behind it: meaning", x.meaningOf(0, 1), 13);
        due("behind it: shape", x.shapeOf(0, 1), 3);
        due("behind it: thumb", x.thumbOf(0, 1), 3);
        due("behind it: place", x.placeOf(0, 1), 3);
        due("signFor(0, 13)", x.signFor(0, 13), 1);
        due("signFor(0, 12)", x.signFor(0, 12), -1);
        due("the other lodge", x.signsOf(1), 1);
        dueThrown(x, "sign 2", INDEX, () -> x.forget(0, 2));
        dueThrown(x, "lodge 2", INDEX, () -> x.forget(2, 0));
        for (int out : OUTSIDE) {
            dueThrown(x, "sign " + out, INDEX, () -> x.forget(0, out));
            dueThrown(x, "lodge " + out, INDEX, () -> x.forget(out, 0));
        }
        due("the last one", x.forget(0, 1), 13);
        due("the first one", x.forget(0, 0), 11);
        due("signsOf(0)", x.signsOf(0), 0);
        dueThrown(x, "of an empty book", INDEX, () -> x.forget(0, 0));
        due("the meaning is free again", x.addSign(0, 0, 0, 0, 0, 12), 0);

        SignMasons full = withLodges(1);
        fill(full, 0);
        due("forget(0, 15)", full.forget(0, 15), 15);
        due("room again", full.addSign(0, 0, 0, 0, 0, 29), 15);
        due("forget(0, 0)", full.forget(0, 0), 0);
        due("all move up", full.meaningOf(0, 14), 29);
    }

    private static void setThumb() {
        promise = 5;
        SignMasons x = withLodges(1);
        x.addSign(0, 5, 2, 7, 1, 4);
        x.addSign(0, 5, 1, 7, 1, 5);
        due("setThumb(0, 0, 3)", x.setThumb(0, 0, 3), 2);
        due("thumbOf(0, 0)", x.thumbOf(0, 0), 3);
        due("setThumb(0, 0, 0)", x.setThumb(0, 0, 0), 3);
        due("setThumb(0, 0, 1), alike then", x.setThumb(0, 0, 1), 0);
        due("the same again", x.setThumb(0, 0, 1), 1);
        due("alikePairs(0)", x.alikePairs(0), 1);
        due("shape stays", x.shapeOf(0, 0), 5);
        due("place stays", x.placeOf(0, 0), 7);
        due("meaning stays", x.meaningOf(0, 0), 4);
        dueThrown(x, "lodge 1", INDEX, () -> x.setThumb(1, 0, 0));
        dueThrown(x, "sign 2", INDEX, () -> x.setThumb(0, 2, 0));
        dueThrown(x, "thumb 4", ARGUMENT, () -> x.setThumb(0, 0, 4));
        for (int out : OUTSIDE) {
            dueThrown(x, "lodge " + out, INDEX, () -> x.setThumb(out, 0, 0));
            dueThrown(x, "sign " + out, INDEX, () -> x.setThumb(0, out, 0));
            dueThrown(x, "thumb " + out, ARGUMENT, () -> x.setThumb(0, 0, out));
            dueThrown(x, "sign and thumb " + out, INDEX, () -> x.setThumb(0, out, out));
        }
    }

    private static void join() {
        promise = 6;
        SignMasons x = new SignMasons();
        due("join(4, 4)", x.join(4, 4), 9);
        due("join(0, 8)", x.join(0, 8), 8);
        due("again", x.join(8, 0), 8);
        due("join(3, 4)", x.join(3, 4), 7);
        due("join(4, 8): two groups of two", x.join(4, 8), 6);
        due("areJoined(0, 3)", x.areJoined(0, 3), true);
        due("areJoined(0, 1)", x.areJoined(0, 1), false);
        dueThrown(x, "join(0, 9)", INDEX, () -> x.join(0, 9));
        dueThrown(x, "join(9, 0)", INDEX, () -> x.join(9, 0));
        for (int out : OUTSIDE) {
            dueThrown(x, "join(0, " + out + ")", INDEX, () -> x.join(0, out));
            dueThrown(x, "join(" + out + ", 0)", INDEX, () -> x.join(out, 0));
        }
        for (int place = 0; place < 9; place++) {
            x.join(5, place);
        }
        due("all joined", x.groups(), 1);
        SignMasons y = new SignMasons();
        due("join(8, 0)", y.join(8, 0), 8);
        due("areJoined(0, 8)", y.areJoined(0, 8), true);
        due("join(7, 8)", y.join(7, 8), 7);
        due("areJoined(0, 7)", y.areJoined(0, 7), true);
        due("areJoined(0, 1)", y.areJoined(0, 1), false);
    }

    private static void borrow() {
        promise = 7;
        SignMasons x = withLodges(3);
        x.addSign(0, 9, 2, 4, 1, 10);
        x.addSign(0, 9, 2, 4, 1, 11);
        x.addSign(0, 9, 3, 4, 1, 12);
        x.addSign(0, 9, 1, 4, 1, 13);
        x.addSign(0, 9, 1, 4, 1, 14);
        due("its own thumb", x.borrow(0, 0, 1), 0);
        due("its own thumb", x.thumbOf(1, 0), 2);
        due("shape", x.shapeOf(1, 0), 9);
        due("place", x.placeOf(1, 0), 4);
        due("meaning", x.meaningOf(1, 0), 10);
        due("movement and all", x.readShown(9, 2, 4, 1, 1), 10);
        due("the thumb behind", x.borrow(0, 1, 1), 1);
        due("the thumb behind", x.thumbOf(1, 1), 3);
        due("0 behind 3", x.borrow(0, 2, 1), 2);
        due("0 behind 3", x.thumbOf(1, 2), 0);
        due("the last thumb", x.borrow(0, 3, 1), 3);
        due("the last thumb", x.thumbOf(1, 3), 1);
        dueThrown(x, "alike with each thumb", STATE, () -> x.borrow(0, 4, 1));
        dueThrown(x, "one for this meaning", STATE, () -> x.borrow(0, 0, 1));
        due("the giver keeps its own", x.signsOf(0), 5);
        due("the giver keeps its thumb", x.thumbOf(0, 1), 2);
        dueThrown(x, "both the same", ARGUMENT, () -> x.borrow(0, 0, 0));
        dueThrown(x, "both the same, no such sign", INDEX, () -> x.borrow(0, 5, 0));
        dueThrown(x, "no such sign", INDEX, () -> x.borrow(0, 5, 1));
        dueThrown(x, "no such sign of the first", INDEX, () -> x.borrow(2, 0, 1));
        dueThrown(x, "no such lodge", INDEX, () -> x.borrow(3, 0, 1));
        dueThrown(x, "no such lodge", INDEX, () -> x.borrow(0, 0, 3));
        dueThrown(x, "no such lodge, twice", INDEX, () -> x.borrow(3, 0, 3));
        for (int out : OUTSIDE) {
            dueThrown(x, "from " + out, INDEX, () -> x.borrow(out, 0, 1));
            dueThrown(x, "sign " + out, INDEX, () -> x.borrow(0, out, 1));
            dueThrown(x, "to " + out, INDEX, () -> x.borrow(0, 0, out));
        }

        SignMasons joined = withLodges(2);
        joined.addSign(0, 1, 3, 0, 0, 1);
        joined.addSign(1, 1, 3, 8, 0, 2);
        joined.addSign(1, 1, 0, 4, 0, 3);
        joined.join(0, 8);
        due("alike by joined places", joined.borrow(0, 0, 1), 2);
        due("thumb 0, as place 4 is not joined", joined.thumbOf(1, 2), 0);
        due("place stays", joined.placeOf(1, 2), 0);

        SignMasons forgotten = withLodges(2);
        forgotten.addSign(0, 3, 3, 3, 3, 3);
        forgotten.addSign(1, 3, 3, 3, 3, 4);
        forgotten.forget(1, 0);
        forgotten.borrow(0, 0, 1);
        due("what is forgotten moves no thumb", forgotten.thumbOf(1, 0), 3);

        SignMasons full = withLodges(2);
        fill(full, 0);
        full.addSign(1, 1, 1, 1, 1, 29);
        dueThrown(full, "16 signs", STATE, () -> full.borrow(1, 0, 0));
        dueThrown(full, "16 signs, the same lodge", ARGUMENT, () -> full.borrow(0, 0, 0));
        for (int i = 0; i < 15; i++) {
            due("borrow up to 16", full.borrow(0, i, 1), i + 1);
        }
        dueThrown(full, "a 17th", STATE, () -> full.borrow(0, 15, 1));
    }

    private static void places() {
        SignMasons x = new SignMasons();
        promise = 8;
        due("groups()", x.groups(), 9);
        x.join(0, 2);
        x.join(2, 6);
        due("groups()", x.groups(), 7);
        promise = 9;
        due("areJoined(0, 6)", x.areJoined(0, 6), true);
        due("areJoined(6, 0)", x.areJoined(6, 0), true);
        due("areJoined(1, 6)", x.areJoined(1, 6), false);
        due("areJoined(1, 1)", x.areJoined(1, 1), true);
        promise = 10;
        due("steps(0, 6)", x.steps(0, 6), 0);
        due("steps(3, 3)", x.steps(3, 3), 0);
        due("steps(0, 8)", x.steps(0, 8), 4);
        due("steps(8, 0)", x.steps(8, 0), 4);
        due("steps(2, 3): not by way of joined places", x.steps(2, 3), 3);
        due("steps(3, 5)", x.steps(3, 5), 2);
        due("steps(1, 7)", x.steps(1, 7), 2);
        due("steps(4, 5)", x.steps(4, 5), 1);
        due("steps(5, 7)", x.steps(5, 7), 2);
        for (int out : new int[] {9, -1, Integer.MIN_VALUE, Integer.MAX_VALUE}) {
            promise = 9;
            dueThrown(x, "areJoined(0, " + out + ")", INDEX, () -> x.areJoined(0, out) ? 1 : 0);
            dueThrown(x, "areJoined(" + out + ", 0)", INDEX, () -> x.areJoined(out, 0) ? 1 : 0);
            dueThrown(x, "areJoined of twice " + out, INDEX, () -> x.areJoined(out, out) ? 1 : 0);
            promise = 10;
            dueThrown(x, "steps(0, " + out + ")", INDEX, () -> x.steps(0, out));
            dueThrown(x, "steps(" + out + ", 0)", INDEX, () -> x.steps(out, 0));
            dueThrown(x, "steps of twice " + out, INDEX, () -> x.steps(out, out));
        }
    }

    private static void books() {
        SignMasons x = withLodges(2);
        x.addSign(1, 6, 3, 7, 2, 0);
        x.addSign(1, 15, 0, 8, 3, 29);
        promise = 11;
        due("lodges()", x.lodges(), 2);
        promise = 12;
        due("signsOf(0)", x.signsOf(0), 0);
        due("signsOf(1)", x.signsOf(1), 2);
        promise = 13;
        due("shapeOf(1, 0)", x.shapeOf(1, 0), 6);
        due("shapeOf(1, 1)", x.shapeOf(1, 1), 15);
        promise = 14;
        due("thumbOf(1, 0)", x.thumbOf(1, 0), 3);
        due("thumbOf(1, 1)", x.thumbOf(1, 1), 0);
        promise = 15;
        due("placeOf(1, 0)", x.placeOf(1, 0), 7);
        due("placeOf(1, 1)", x.placeOf(1, 1), 8);
        promise = 16;
        due("meaningOf(1, 0)", x.meaningOf(1, 0), 0);
        due("meaningOf(1, 1)", x.meaningOf(1, 1), 29);
        promise = 17;
        due("signFor(1, 0)", x.signFor(1, 0), 0);
        due("signFor(1, 29)", x.signFor(1, 29), 1);
        due("signFor(1, 28)", x.signFor(1, 28), -1);
        due("signFor(0, 0)", x.signFor(0, 0), -1);
        fill(x, 0);
        due("signFor(0, 15) of a full book", x.signFor(0, 15), 15);
        due("signFor(0, 16) of a full book", x.signFor(0, 16), -1);
        for (int i = 0; i < 16; i++) {
            x.forget(0, 15 - i);
            due("signFor() of one forgotten", x.signFor(0, 15 - i), -1);
        }
        for (int out : new int[] {2, -1, Integer.MIN_VALUE, Integer.MAX_VALUE}) {
            wrongInBooks(x, out);
        }
        dueThrown(x, "signFor(0, 30)", INDEX, () -> x.signFor(0, 30));
        dueThrown(x, "signFor(0, -1)", INDEX, () -> x.signFor(0, -1));
        dueThrown(x, "signFor(2, 30)", INDEX, () -> x.signFor(2, 30));
    }

    private static void wrongInBooks(SignMasons x, int out) {
        promise = 12;
        dueThrown(x, "signsOf(" + out + ")", INDEX, () -> x.signsOf(out));
        promise = 13;
        dueThrown(x, "shapeOf(" + out + ", 0)", INDEX, () -> x.shapeOf(out, 0));
        dueThrown(x, "shapeOf(1, " + out + ")", INDEX, () -> x.shapeOf(1, out));
        dueThrown(x, "shapeOf(0, 0)", INDEX, () -> x.shapeOf(0, 0));
        promise = 14;
        dueThrown(x, "thumbOf(" + out + ", 0)", INDEX, () -> x.thumbOf(out, 0));
        dueThrown(x, "thumbOf(1, " + out + ")", INDEX, () -> x.thumbOf(1, out));
        promise = 15;
        dueThrown(x, "placeOf(" + out + ", 0)", INDEX, () -> x.placeOf(out, 0));
        dueThrown(x, "placeOf(1, " + out + ")", INDEX, () -> x.placeOf(1, out));
        promise = 16;
        dueThrown(x, "meaningOf(" + out + ", 0)", INDEX, () -> x.meaningOf(out, 0));
        dueThrown(x, "meaningOf(1, " + out + ")", INDEX, () -> x.meaningOf(1, out));
        promise = 17;
        dueThrown(x, "signFor(" + out + ", 0)", INDEX, () -> x.signFor(out, 0));
    }

    private static void howSignsDiffer() {
        promise = 18;
        SignMasons x = withLodges(3);
        x.addSign(0, 0, 0, 0, 0, 0);
        x.addSign(0, 15, 3, 8, 3, 1);
        x.addSign(0, 8, 0, 0, 0, 2);
        x.addSign(0, 0, 2, 0, 0, 3);
        x.addSign(0, 0, 0, 5, 0, 4);
        x.addSign(0, 0, 0, 0, 1, 5);
        due("apart(0, 0, 0)", x.apart(0, 0, 0), 0);
        due("all that differs", x.apart(0, 0, 1), 11);
        due("the other way round", x.apart(0, 1, 0), 11);
        due("one finger", x.apart(0, 0, 2), 1);
        due("a thumb 2 further", x.apart(0, 0, 3), 1);
        due("places", x.apart(0, 0, 4), 3);
        due("movements", x.apart(0, 0, 5), 2);
        x.join(0, 5);
        due("joined places", x.apart(0, 0, 4), 0);
        wrongSigns(x);

        promise = 19;
        due("alikePairs(0)", x.alikePairs(0), 1);
        due("alikePairs(1)", x.alikePairs(1), 0);
        // 0, 1 and 3 of this book are alike; 2 has another thumb, 4 another movement.
        x.addSign(1, 3, 1, 0, 2, 0);
        x.addSign(1, 3, 1, 5, 2, 1);
        x.addSign(1, 3, 2, 0, 2, 2);
        x.addSign(1, 3, 1, 0, 2, 3);
        x.addSign(1, 3, 1, 0, 3, 4);
        due("three alike", x.alikePairs(1), 3);
        promise = 20;
        due("thumbPairs(1)", x.thumbPairs(1), 3);
        due("a finger is no thumb", x.thumbPairs(0), 2);
        due("thumbPairs(2)", x.thumbPairs(2), 0);
        promise = 21;
        due("closest(1)", x.closest(1), 0);
        due("closest(2), empty", x.closest(2), 0);
        x.addSign(2, 0, 0, 0, 0, 0);
        due("closest(2), one sign", x.closest(2), 0);
        x.addSign(2, 15, 1, 8, 1, 1);
        due("closest(2), two signs", x.closest(2), 11);
        x.addSign(2, 15, 0, 4, 1, 2);
        due("closest(2), three signs", x.closest(2), 3);
        x.forget(2, 2);
        due("closest(2), one forgotten", x.closest(2), 11);
        fullBookDiffers();
    }

    private static void fullBookDiffers() {
        SignMasons x = withLodges(1);
        for (int i = 0; i < 16; i++) {
            x.addSign(0, 0, i % 4, 0, 0, i);
        }
        promise = 19;
        due("four alike for each thumb", x.alikePairs(0), 24);
        promise = 20;
        due("all pairs but those", x.thumbPairs(0), 96);
        promise = 21;
        due("closest(0)", x.closest(0), 0);
        promise = 22;
        due("all are near to all", x.mostMistaken(0), 0);
        x.forget(0, 15);
        promise = 19;
        due("one with thumb 3 less", x.alikePairs(0), 21);
        promise = 20;
        due("one with thumb 3 less", x.thumbPairs(0), 84);
    }

    private static void wrongSigns(SignMasons x) {
        for (int out : new int[] {6, -1, Integer.MIN_VALUE, Integer.MAX_VALUE}) {
            promise = 18;
            dueThrown(x, "apart(" + out + ", 0, 0)", INDEX, () -> x.apart(out, 0, 0));
            dueThrown(x, "apart(0, " + out + ", 0)", INDEX, () -> x.apart(0, out, 0));
            dueThrown(x, "apart(0, 0, " + out + ")", INDEX, () -> x.apart(0, 0, out));
            promise = 19;
            dueThrown(x, "alikePairs(" + out + ")", INDEX, () -> x.alikePairs(out));
            promise = 20;
            dueThrown(x, "thumbPairs(" + out + ")", INDEX, () -> x.thumbPairs(out));
            promise = 21;
            dueThrown(x, "closest(" + out + ")", INDEX, () -> x.closest(out));
            promise = 22;
            dueThrown(x, "mostMistaken(" + out + ")", INDEX, () -> x.mostMistaken(out));
        }
    }

    private static void mostMistaken() {
        promise = 22;
        SignMasons x = withLodges(1);
        due("no signs", x.mostMistaken(0), -1);
        x.addSign(0, 15, 0, 8, 3, 0);
        due("one sign", x.mostMistaken(0), 0);
        x.addSign(0, 0, 0, 0, 0, 1);
        due("two far apart", x.mostMistaken(0), 0);
        x.addSign(0, 1, 0, 0, 2, 2);
        due("two that are 3 apart", x.mostMistaken(0), 1);
        x.addSign(0, 1, 2, 0, 3, 3);
        due("the one between, 4 apart is too far", x.mostMistaken(0), 2);
        SignMasons y = withLodges(1);
        y.addSign(0, 0, 0, 0, 0, 0);
        y.addSign(0, 15, 0, 0, 0, 1);
        y.addSign(0, 3, 0, 0, 0, 2);
        due("near the first and the second one", y.mostMistaken(0), 2);
        y.forget(0, 2);
        due("none is near the other", y.mostMistaken(0), 0);
    }

    private static void read() {
        promise = 23;
        SignMasons x = withLodges(3);
        x.addSign(0, 0, 0, 0, 0, 7);
        x.addSign(0, 15, 3, 8, 3, 8);
        due("an empty book", x.read(0, 0, 1), -1);
        x.addSign(1, 7, 0, 0, 0, 20);
        due("3 apart", x.read(0, 0, 1), 20);
        due("too far", x.read(0, 1, 1), -1);
        x.addSign(1, 0, 0, 0, 1, 21);
        due("2 apart is nearer", x.read(0, 0, 1), 21);
        x.addSign(1, 1, 1, 0, 0, 22);
        due("two are 2 apart", x.read(0, 0, 1), -1);
        x.addSign(1, 0, 1, 0, 0, 23);
        due("1 apart, behind those", x.read(0, 0, 1), 23);
        due("its own book", x.read(0, 0, 0), 7);
        x.addSign(0, 0, 0, 0, 0, 9);
        due("its own book, alike to another", x.read(0, 0, 0), -1);
        x.addSign(2, 15, 0, 0, 0, 5);
        due("4 apart alone", x.read(0, 0, 2), -1);
        x.addSign(2, 15, 3, 0, 3, 6);
        due("4 apart by places", x.read(0, 1, 2), -1);
        x.join(0, 8);
        due("joined places", x.read(0, 1, 2), 6);
        for (int out : new int[] {3, -1, Integer.MIN_VALUE, Integer.MAX_VALUE}) {
            dueThrown(x, "from " + out, INDEX, () -> x.read(out, 0, 0));
            dueThrown(x, "sign " + out, INDEX, () -> x.read(0, out, 1));
            dueThrown(x, "to " + out, INDEX, () -> x.read(0, 0, out));
        }
        dueThrown(x, "a sign of the second one only", INDEX, () -> x.read(0, 3, 1));
    }

    private static void readShown() {
        promise = 24;
        SignMasons x = withLodges(2);
        x.addSign(0, 10, 1, 3, 2, 29);
        x.addSign(0, 5, 1, 3, 2, 0);
        due("just so", x.readShown(10, 1, 3, 2, 0), 29);
        due("the other one", x.readShown(5, 1, 3, 2, 0), 0);
        due("in the middle", x.readShown(9, 1, 3, 2, 0), -1);
        due("3 apart", x.readShown(10, 0, 3, 0, 0), 29);
        due("3 apart by steps and thumb", x.readShown(10, 3, 5, 2, 0), 29);
        due("4 apart", x.readShown(10, 0, 4, 0, 0), -1);
        due("an empty book", x.readShown(10, 1, 3, 2, 1), -1);
        due("nothing is put into the book", x.signsOf(0), 2);
        dueThrown(x, "shape 16", ARGUMENT, () -> x.readShown(16, 0, 0, 0, 0));
        dueThrown(x, "thumb 4", ARGUMENT, () -> x.readShown(0, 4, 0, 0, 0));
        dueThrown(x, "place 9", ARGUMENT, () -> x.readShown(0, 0, 9, 0, 0));
        dueThrown(x, "movement 4", ARGUMENT, () -> x.readShown(0, 0, 0, 4, 0));
        dueThrown(x, "lodge 2", INDEX, () -> x.readShown(0, 0, 0, 0, 2));
        for (int out : OUTSIDE) {
            dueThrown(x, "shape " + out, ARGUMENT, () -> x.readShown(out, 0, 0, 0, 0));
            dueThrown(x, "thumb " + out, ARGUMENT, () -> x.readShown(0, out, 0, 0, 0));
            dueThrown(x, "place " + out, ARGUMENT, () -> x.readShown(0, 0, out, 0, 0));
            dueThrown(x, "movement " + out, ARGUMENT, () -> x.readShown(0, 0, 0, out, 0));
            dueThrown(x, "lodge " + out, INDEX, () -> x.readShown(0, 0, 0, 0, out));
            dueThrown(x, "all wrong: the lodge first", INDEX, () -> x.readShown(out, out, out, out, out));
        }
    }

    private static void understoodAndMisread() {
        SignMasons x = withLodges(3);
        x.addSign(0, 0, 0, 0, 0, 1);
        x.addSign(0, 15, 0, 0, 0, 2);
        x.addSign(0, 15, 0, 8, 2, 3);
        x.addSign(1, 0, 1, 0, 0, 1);
        x.addSign(1, 15, 1, 0, 0, 4);
        promise = 25;
        due("understood(0, 1)", x.understood(0, 1), 1);
        due("understood(1, 0)", x.understood(1, 0), 1);
        due("understood(0, 0)", x.understood(0, 0), 3);
        due("an empty reader", x.understood(0, 2), 0);
        due("an empty giver", x.understood(2, 0), 0);
        promise = 26;
        due("misread(0, 1)", x.misread(0, 1), 1);
        due("misread(1, 0)", x.misread(1, 0), 1);
        due("misread(0, 0)", x.misread(0, 0), 0);
        due("an empty reader", x.misread(0, 2), 0);
        x.addSign(1, 15, 0, 8, 2, 0);
        due("one more of another meaning", x.misread(0, 1), 2);
        x.addSign(0, 15, 0, 0, 0, 5);
        due("alike ones are not read at home", x.misread(0, 0), 0);
        due("alike ones are both read elsewhere", x.misread(0, 1), 3);
        promise = 25;
        due("alike ones are not understood at home", x.understood(0, 0), 2);
        x.addSign(2, 0, 0, 1, 0, 1);
        x.addSign(2, 15, 1, 1, 1, 2);
        due("one of three", x.understood(0, 2), 1);
        due("one of two", x.understood(2, 0), 1);
        promise = 26;
        x.addSign(2, 15, 0, 0, 0, 9);
        x.forget(1, 0);
        x.addSign(1, 1, 0, 0, 0, 8);
        due("the first sign too", x.misread(0, 1), 4);
        wrongPairs(x);
    }

    private static void common() {
        promise = 27;
        SignMasons x = withLodges(3);
        x.addSign(0, 0, 0, 0, 0, 1);
        x.addSign(0, 15, 0, 8, 3, 2);
        x.addSign(1, 15, 0, 8, 2, 2);
        x.addSign(1, 3, 0, 0, 0, 1);
        x.addSign(1, 12, 3, 4, 0, 9);
        due("two", x.common(0, 1), 2);
        due("two, the other way", x.common(1, 0), 2);
        x.addSign(0, 3, 1, 0, 0, 20);
        // Now lodge 0 reads the sign of lodge 1 for 1 as 20, while lodge 1 still reads its one well.
        due("read in one way only", x.common(0, 1), 1);
        due("read in one way only, the other way", x.common(1, 0), 1);
        due("understood one way", x.understood(0, 1), 2);
        due("with itself", x.common(0, 0), 3);
        due("with an empty one", x.common(0, 2), 0);
        x.addSign(0, 0, 0, 0, 0, 21);
        due("with itself, two alike", x.common(0, 0), 2);
        SignMasons full = withLodges(2);
        fill(full, 0);
        fill(full, 1);
        due("two full books", full.common(0, 1), 16);
        full.forget(0, 15);
        due("one forgotten", full.common(0, 1), 15);
    }

    private static void wrongPairs(SignMasons x) {
        for (int out : new int[] {3, -1, Integer.MIN_VALUE, Integer.MAX_VALUE}) {
            promise = 25;
            dueThrown(x, "understood(" + out + ", 0)", INDEX, () -> x.understood(out, 0));
            dueThrown(x, "understood(0, " + out + ")", INDEX, () -> x.understood(0, out));
            promise = 26;
            dueThrown(x, "misread(" + out + ", 0)", INDEX, () -> x.misread(out, 0));
            dueThrown(x, "misread(0, " + out + ")", INDEX, () -> x.misread(0, out));
            promise = 27;
            dueThrown(x, "common(" + out + ", 0)", INDEX, () -> x.common(out, 0));
            dueThrown(x, "common(0, " + out + ")", INDEX, () -> x.common(0, out));
            promise = 29;
            dueThrown(x, "bestToBorrow(" + out + ", 0)", INDEX, () -> x.bestToBorrow(out, 0));
            dueThrown(x, "bestToBorrow(0, " + out + ")", INDEX, () -> x.bestToBorrow(0, out));
            dueThrown(x, "bestToBorrow of twice " + out, INDEX, () -> x.bestToBorrow(out, out));
        }
    }

    private static void bestThumb() {
        promise = 28;
        SignMasons x = withLodges(1);
        x.addSign(0, 0, 2, 0, 0, 0);
        due("no other sign", x.bestThumb(0, 0), 2);
        x.addSign(0, 1, 0, 0, 0, 1);
        due("another with thumb 0", x.bestThumb(0, 0), 1);
        due("another with thumb 2", x.bestThumb(0, 1), 0);
        x.addSign(0, 1, 1, 0, 0, 2);
        due("others with 0 and 1", x.bestThumb(0, 0), 2);
        x.addSign(0, 2, 2, 0, 0, 3);
        due("others with 0, 1 and 2", x.bestThumb(0, 0), 3);
        x.addSign(0, 4, 3, 0, 0, 4);
        due("all alike near: the smallest", x.bestThumb(0, 0), 0);
        due("thumbOf(0, 0) as before", x.thumbOf(0, 0), 2);
        x.addSign(0, 15, 3, 8, 3, 5);
        due("far from all, none else with thumb 3 near", x.bestThumb(0, 5), 0);
        SignMasons y = withLodges(1);
        y.addSign(0, 1, 0, 0, 0, 1);
        y.addSign(0, 0, 3, 0, 0, 2);
        due("the first one is the nearest", y.bestThumb(0, 1), 1);
        y.addSign(0, 0, 1, 1, 0, 3);
        due("the nearest counts, not all together", y.bestThumb(0, 1), 2);
        y.addSign(0, 15, 2, 8, 0, 4);
        due("a far one with thumb 2 is no matter", y.bestThumb(0, 1), 2);
        for (int out : new int[] {6, -1, Integer.MIN_VALUE, Integer.MAX_VALUE}) {
            dueThrown(x, "lodge " + out, INDEX, () -> x.bestThumb(out, 0));
            dueThrown(x, "sign " + out, INDEX, () -> x.bestThumb(0, out));
        }
    }

    private static void bestToBorrow() {
        promise = 29;
        SignMasons x = withLodges(3);
        x.addSign(0, 0, 0, 0, 0, 1);
        x.addSign(0, 15, 1, 8, 1, 2);
        x.addSign(0, 3, 2, 0, 2, 3);
        due("of several the smallest", x.bestToBorrow(0, 1), 0);
        due("none to give", x.bestToBorrow(1, 0), -1);
        due("both the same", x.bestToBorrow(0, 0), -1);
        x.borrow(0, 0, 1);
        due("meaning 1 can't be borrowed now", x.bestToBorrow(0, 1), 1);
        // The reader's own sign makes that for 1 unread, so another one is better.
        x.addSign(2, 0, 0, 0, 0, 9);
        due("the thumb moved by borrowing counts", x.bestToBorrow(0, 2), 1);
        due("signs as before", x.signsOf(2), 1);
        x.borrow(0, 1, 1);
        x.borrow(0, 2, 1);
        due("all meanings are there", x.bestToBorrow(0, 1), -1);

        SignMasons full = withLodges(2);
        fill(full, 0);
        full.addSign(1, 9, 3, 8, 3, 29);
        due("no room", full.bestToBorrow(1, 0), -1);
        long before = full.digest();
        full.bestToBorrow(0, 1);
        due("nothing changed", full.digest(), before);

        SignMasons thumbs = withLodges(2);
        for (int thumb = 0; thumb < 4; thumb++) {
            thumbs.addSign(1, 6, thumb, 4, 0, thumb);
        }
        thumbs.addSign(0, 6, 0, 4, 0, 10);
        due("alike with each thumb", thumbs.bestToBorrow(0, 1), -1);
        thumbs.addSign(0, 9, 0, 0, 0, 11);
        due("but another one can", thumbs.bestToBorrow(0, 1), 1);

        SignMasons many = withLodges(2);
        fill(many, 1);
        many.forget(1, 15);
        many.addSign(0, 14, 0, 0, 0, 20);
        many.addSign(0, 15, 0, 2, 0, 21);
        due("a reader of many signs", many.bestToBorrow(0, 1), 1);

        // With the first one borrowed, the third one is as near to it as to the reader's own for 5.
        SignMasons blurred = withLodges(2);
        fill(blurred, 1);
        blurred.forget(1, 15);
        blurred.addSign(0, 5, 2, 0, 0, 20);
        blurred.addSign(0, 15, 0, 0, 0, 21);
        blurred.addSign(0, 5, 1, 0, 0, 5);
        due("what was understood before counts", blurred.bestToBorrow(0, 1), 1);

        SignMasons zero = withLodges(2);
        zero.addSign(1, 6, 0, 4, 0, 20);
        zero.addSign(0, 6, 0, 4, 0, 21);
        due("understood stays 0, still the best", zero.bestToBorrow(0, 1), 0);
    }

    private static void alikeIfJoined() {
        promise = 30;
        SignMasons x = withLodges(3);
        due("no signs", x.alikeIfJoined(0, 1), 0);
        x.addSign(0, 1, 0, 0, 0, 0);
        x.addSign(0, 1, 0, 1, 0, 1);
        x.addSign(0, 1, 0, 2, 0, 2);
        x.addSign(0, 1, 1, 1, 0, 3);
        x.addSign(0, 1, 0, 1, 1, 4);
        x.addSign(0, 2, 0, 1, 0, 5);
        x.addSign(1, 1, 0, 0, 0, 0);
        x.addSign(1, 1, 0, 0, 0, 1);
        x.addSign(1, 1, 0, 1, 0, 2);
        due("one and three", x.alikeIfJoined(0, 1), 4);
        due("one and three, the other way", x.alikeIfJoined(1, 0), 4);
        due("those of now and one", x.alikeIfJoined(1, 2), 2);
        due("a place with itself: those of now", x.alikeIfJoined(5, 5), 1);
        due("nothing is joined", x.groups(), 9);
        x.join(0, 8);
        x.join(2, 7);
        due("by way of the groups", x.alikeIfJoined(7, 8), 2);
        due("two of a group: those of now", x.alikeIfJoined(0, 8), 1);
        x.join(7, 8);
        due("now all three of lodge 0", x.alikeIfJoined(1, 7), 6);
        x.addLodge();
        for (int i = 0; i < 16; i++) {
            x.addSign(3, 2, 0, 3, 0, i);
        }
        due("four lodges, a full book", x.alikeIfJoined(1, 7), 126);
        x.forget(3, 15);
        due("one forgotten", x.alikeIfJoined(1, 7), 111);
        for (int out : new int[] {9, -1, Integer.MIN_VALUE, Integer.MAX_VALUE}) {
            dueThrown(x, "one " + out, INDEX, () -> x.alikeIfJoined(out, 0));
            dueThrown(x, "other " + out, INDEX, () -> x.alikeIfJoined(0, out));
            dueThrown(x, "both " + out, INDEX, () -> x.alikeIfJoined(out, out));
        }
    }

    private static void meanSigns() {
        promise = 31;
        SignMasons x = new SignMasons();
        dueDouble("no lodges", x.meanSigns(), 0.0);
        x.addLodge();
        dueDouble("no signs", x.meanSigns(), 0.0);
        x.addSign(0, 0, 0, 0, 0, 0);
        dueDouble("1 / 1", x.meanSigns(), 1.0);
        x.addLodge();
        dueDouble("1 / 2", x.meanSigns(), 0.5);
        x.addLodge();
        dueDouble("1 / 3", x.meanSigns(), 1.0 / 3.0);
        x.addSign(2, 0, 0, 0, 0, 0);
        dueDouble("2 / 3", x.meanSigns(), 2.0 / 3.0);
        x.addLodge();
        fill(x, 3);
        dueDouble("18 / 4", x.meanSigns(), 4.5);
    }

    private static void digest() {
        promise = 32;
        SignMasons x = new SignMasons();
        due("a new object", x.digest(), (2099L * 31 + 0) * 31 + 9);
        x.join(0, 1);
        x.addLodge();
        long empty = (2099L * 31 + 1) * 31 + 8;
        for (int number : new int[] {0, 0, 0, 0, -1, 0, 0, -1}) {
            empty = empty * 31 + number;
        }
        due("an empty lodge", x.digest(), empty);
        x.addLodge();
        x.addSign(0, 5, 2, 7, 3, 12);
        x.addSign(1, 5, 3, 7, 3, 12);
        x.addSign(1, 4, 3, 7, 3, 13);
        long want = 2099;
        int[] numbers = {
            2, 8,
            1, 0, 0, 0, 0, 1, 0, -1, 1, 0, -1, 5, 2, 7, 12, 2,
            2, 0, 0, 1, 0, 1, 1, 1, 2, 0, -1, 5, 3, 7, 12, 0, 4, 3, 7, 13, 0,
        };
        for (int number : numbers) {
            want = want * 31 + number;
        }
        due("two lodges", x.digest(), want);
        due("again", x.digest(), want);
    }

    public static void main(String[] args) {
        newObject();
        addLodge();
        addSign();
        forget();
        setThumb();
        join();
        borrow();
        places();
        books();
        howSignsDiffer();
        mostMistaken();
        read();
        readShown();
        understoodAndMisread();
        common();
        bestThumb();
        bestToBorrow();
        alikeIfJoined();
        meanSigns();
        digest();
        System.out.println(wrong == 0 ? "all answers are as due" : wrong + " answers are not as due");
        if (wrong != 0) {
            System.exit(1);
        }
    }
}
