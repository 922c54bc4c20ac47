/**
 * Tests of single sentences of the document. A test begins with the sentence that it stands for; each
 * answer that is not as due is told with this sentence and the number of its promise. No object is
 * asked more than the 512 calls that the document speaks of.
 */
abstract class Sentences {
    static final Class<?> INDEX = IndexOutOfBoundsException.class;
    static final Class<?> ARGUMENT = IllegalArgumentException.class;
    static final Class<?> STATE = IllegalStateException.class;

    private static final String FIRST_NAMED = "If several exceptions apply, the one that is named first is thrown.";
    private static final int SMALLEST = Integer.MIN_VALUE;
    private static final int GREATEST = Integer.MAX_VALUE;

    private final Document document;
    private String current = "";
    private int begun = 0;
    private int wrong = 0;

    /** Makes a new object and brings it where a test needs it, always in the same way. */
    interface Scene {
        SignMasons make();
    }

    interface Call {
        Object on(SignMasons x);
    }

    interface NumberCall {
        Object on(SignMasons x, int number);
    }

    Sentences(Document document) {
        this.document = document;
    }

    abstract void testAll();

    int begun() {
        return begun;
    }

    int wrong() {
        return wrong;
    }

    // ---- which sentence it is

    void sentence(int promise, String words) {
        begin(promise, promise, words);
    }

    void terms(String words) {
        begin(Document.TERMS, Document.TERMS, words);
    }

    void about(String words) {
        begin(Document.WHAT_IT_IS, Document.WHAT_IT_IS, words);
    }

    /** The order of the exceptions of this promise, which "Terms" tells for all of them. */
    void order(int promise) {
        begin(promise, Document.TERMS, FIRST_NAMED);
    }

    private void begin(int promise, int section, String words) {
        begun++;
        current = Document.title(promise) + ", \"" + words + "\"";
        if (!document.quote(section, words)) {
            report("the document", "does not say so", "these words");
        }
    }

    // ---- what is due

    void due(String call, long got, long want) {
        if (got != want) {
            report(call, String.valueOf(got), String.valueOf(want));
        }
    }

    void due(String call, boolean got, boolean want) {
        if (got != want) {
            report(call, String.valueOf(got), String.valueOf(want));
        }
    }

    void due(String call, double got, double want) {
        if (got != want) {
            report(call, String.valueOf(got), String.valueOf(want));
        }
    }

    private void report(String call, String got, String want) {
        wrong++;
        System.out.println(current + ": " + call + " answered " + got + ", due is " + want);
    }

    /** The call throws just this exception, and leaves the object as one that was not called. */
    void refused(Scene scene, String call, Class<?> want, Call run) {
        SignMasons x = scene.make();
        String got;
        try {
            got = String.valueOf(run.on(x));
        } catch (RuntimeException e) {
            got = e.getClass().getName();
        }
        if (!got.equals(want.getName())) {
            report(call, got, want.getName());
        }
        sameAsUncalled(scene, call, x);
    }

    /** The call is an answer, which is the same when it is asked again, and changes nothing. */
    void unchanged(Scene scene, String call, Call run) {
        SignMasons x = scene.make();
        Object first = run.on(x);
        Object second = run.on(x);
        if (!first.equals(second)) {
            report(call + " asked again", second.toString(), first.toString());
        }
        sameAsUncalled(scene, call, x);
    }

    private void sameAsUncalled(Scene scene, String call, SignMasons x) {
        String want = state(scene.make());
        String got = state(x);
        if (!got.equals(want)) {
            report("after " + call + " the object", got, want);
        }
    }

    /** All that the object tells of itself, in fewer than 400 calls. */
    static String state(SignMasons x) {
        StringBuilder all = new StringBuilder();
        all.append(x.lodges()).append(" lodges, ").append(x.groups()).append(" groups, steps ");
        for (int one = 0; one < 9; one++) {
            for (int other = one + 1; other < 9; other++) {
                all.append(x.steps(one, other));
            }
        }
        for (int lodge = 0; lodge < x.lodges(); lodge++) {
            all.append("; ").append(lodge).append(':');
            int signs = x.signsOf(lodge);
            for (int sign = 0; sign < signs; sign++) {
                all.append(' ').append(x.shapeOf(lodge, sign)).append('.').append(x.thumbOf(lodge, sign));
                all.append('.').append(x.placeOf(lodge, sign)).append('.').append(x.meaningOf(lodge, sign));
                // No call tells a movement, but how far others are apart from it does.
                all.append('.').append(x.apart(lodge, 0, sign));
            }
        }
        return all.append("; ").append(x.digest()).toString();
    }

    // ---- numbers that are too small or too large

    /** Numbers that are not 0 to last, some of which would be if their upper bits were cut off. */
    static int[] outside(int last) {
        return new int[] {-1, -2, SMALLEST, SMALLEST + 1, last + 1, last + 2, 32, 256, 65536, 1 << 30, GREATEST};
    }

    /** The call throws as it should with each number that is not 0 to last. */
    void refusedOutside(int last, Scene scene, String call, Class<?> want, NumberCall run) {
        for (int number : outside(last)) {
            refused(scene, call + " with " + number, want, x -> run.on(x, number));
        }
    }

    /** The call throws with each number that is no lodge, with as many lodges as there can be or fewer. */
    void noSuchLodge(String call, NumberCall run) {
        for (int lodges = 0; lodges <= 4; lodges++) {
            int there = lodges;
            refusedOutside(lodges - 1, () -> peopled(there), call + " of " + lodges + " lodges", INDEX, run);
        }
    }

    /** The call throws with each number that is no sign of lodge 0, though another lodge may have one. */
    void noSuchSign(String call, NumberCall run) {
        refusedOutside(-1, Sentences::emptyBesideFull, call + " of an empty book", INDEX, run);
        refusedOutside(1, () -> peopled(2), call + " of a book with two signs", INDEX, run);
        refusedOutside(1, Sentences::lastForgotten, call + " of a book with a sign forgotten", INDEX, run);
        refusedOutside(15, Sentences::fullBesideOne, call + " of a full book", INDEX, run);
    }

    // ---- scenes

    static SignMasons lodges(int number) {
        SignMasons x = new SignMasons();
        for (int i = 0; i < number; i++) {
            x.addLodge();
        }
        return x;
    }

    /** Each lodge has two signs, for meanings that no other one has a sign for. */
    static SignMasons peopled(int lodges) {
        SignMasons x = lodges(lodges);
        for (int lodge = 0; lodge < lodges; lodge++) {
            x.addSign(lodge, lodge, 0, lodge, 0, 2 * lodge);
            x.addSign(lodge, 15 - lodge, 1, 8 - lodge, 1, 2 * lodge + 1);
        }
        return x;
    }

    /** Puts a sign of each handshape into a book, for the meanings 0 to 15. */
    static void fill(SignMasons x, int lodge) {
        for (int i = 0; i < 16; i++) {
            x.addSign(lodge, i, 0, 0, 0, i);
        }
    }

    static SignMasons full() {
        SignMasons x = lodges(1);
        fill(x, 0);
        return x;
    }

    static SignMasons fullBesideOne() {
        SignMasons x = lodges(2);
        fill(x, 0);
        x.addSign(1, 5, 3, 8, 3, 29);
        return x;
    }

    static SignMasons emptyBesideFull() {
        SignMasons x = lodges(2);
        fill(x, 1);
        return x;
    }

    static SignMasons lastForgotten() {
        SignMasons x = peopled(2);
        x.addSign(0, 7, 2, 4, 2, 20);
        x.forget(0, 2);
        return x;
    }

    /** Four lodges with three, one, sixteen and no signs, and two groups of joined places. */
    static SignMasons rich() {
        SignMasons x = lodges(4);
        x.join(0, 8);
        x.join(4, 5);
        x.addSign(0, 3, 3, 0, 0, 1);
        x.addSign(0, 3, 3, 8, 0, 2);
        x.addSign(0, 12, 1, 4, 2, 29);
        x.addSign(1, 3, 3, 0, 0, 2);
        for (int i = 0; i < 16; i++) {
            x.addSign(2, i, i % 4, i % 9, i / 4, 29 - i);
        }
        return x;
    }
}
