import java.util.ArrayList;
import java.util.HashSet;
import java.util.List;
import java.util.Random;
import java.util.Set;
import java.util.TreeSet;

/** Long runs of calls, in which the class and a second, naive telling of the document must agree. */
public final class ModelTest {
    private static final int RUNS = 300;
    private static final int CALLS = 512;

    /** The document once more, as slow and as literal as can be. */
    private static final class Model {
        private record Sign(int shape, int thumb, int place, int movement, int meaning) {
            Sign withThumb(int other) {
                return new Sign(shape, other, place, movement, meaning);
            }
        }

        private final List<List<Sign>> books = new ArrayList<>();
        private List<Set<Integer>> groups = new ArrayList<>();

        Model() {
            for (int place = 0; place < 9; place++) {
                groups.add(new TreeSet<>(List.of(place)));
            }
        }

        private static void index(boolean fine) {
            if (!fine) {
                throw new IndexOutOfBoundsException();
            }
        }

        private static void argument(boolean fine) {
            if (!fine) {
                throw new IllegalArgumentException();
            }
        }

        private static void state(boolean fine) {
            if (!fine) {
                throw new IllegalStateException();
            }
        }

        private static boolean in(int x, int last) {
            return 0 <= x && x <= last;
        }

        private List<Sign> book(int lodge) {
            index(in(lodge, books.size() - 1));
            return books.get(lodge);
        }

        private Sign sign(int lodge, int sign) {
            index(in(sign, book(lodge).size() - 1));
            return book(lodge).get(sign);
        }

        private Set<Integer> group(int place) {
            for (Set<Integer> group : groups) {
                if (group.contains(place)) {
                    return group;
                }
            }
            throw new AssertionError(place);
        }

        private int apart(Sign one, Sign other) {
            int sum = 0;
            for (int finger = 1; finger < 16; finger *= 2) {
                if (one.shape / finger % 2 != other.shape / finger % 2) {
                    sum++;
                }
            }
            sum += one.thumb != other.thumb ? 1 : 0;
            sum += one.movement != other.movement ? 2 : 0;
            return sum + steps(one.place, other.place);
        }

        private int read(Sign shown, List<Sign> book) {
            int fewest = book.stream().mapToInt(s -> apart(s, shown)).min().orElse(99);
            List<Sign> nearest = book.stream().filter(s -> apart(s, shown) == fewest).toList();
            return fewest <= 3 && nearest.size() == 1 ? nearest.get(0).meaning : -1;
        }

        int addLodge() {
            state(books.size() < 4);
            books.add(new ArrayList<>());
            return books.size() - 1;
        }

        int addSign(int lodge, int shape, int thumb, int place, int movement, int meaning) {
            List<Sign> book = book(lodge);
            argument(in(shape, 15) && in(thumb, 3) && in(place, 8) && in(movement, 3) && in(meaning, 29));
            state(book.size() < 16 && signFor(lodge, meaning) == -1);
            book.add(new Sign(shape, thumb, place, movement, meaning));
            return book.size() - 1;
        }

        int forget(int lodge, int sign) {
            int meaning = sign(lodge, sign).meaning;
            books.get(lodge).remove(sign);
            return meaning;
        }

        int setThumb(int lodge, int sign, int thumb) {
            Sign before = sign(lodge, sign);
            argument(in(thumb, 3));
            books.get(lodge).set(sign, before.withThumb(thumb));
            return before.thumb;
        }

        int join(int one, int other) {
            index(in(one, 8) && in(other, 8));
            Set<Integer> both = new TreeSet<>(group(one));
            both.addAll(group(other));
            groups.removeIf(both::containsAll);
            groups.add(both);
            return groups.size();
        }

        int borrow(int from, int sign, int to) {
            book(from);
            List<Sign> taker = book(to);
            Sign loan = sign(from, sign);
            argument(from != to);
            state(taker.size() < 16 && signFor(to, loan.meaning) == -1);
            for (int turn = 0; turn < 4; turn++) {
                Sign tried = loan.withThumb((loan.thumb + turn) % 4);
                if (taker.stream().allMatch(s -> apart(s, tried) > 0)) {
                    taker.add(tried);
                    return taker.size() - 1;
                }
            }
            throw new IllegalStateException();
        }

        boolean areJoined(int one, int other) {
            index(in(one, 8) && in(other, 8));
            return group(one).contains(other);
        }

        int steps(int one, int other) {
            if (areJoined(one, other)) {
                return 0;
            }
            return Math.abs(one / 3 - other / 3) + Math.abs(one % 3 - other % 3);
        }

        int signFor(int lodge, int meaning) {
            List<Sign> book = book(lodge);
            index(in(meaning, 29));
            for (int i = 0; i < book.size(); i++) {
                if (book.get(i).meaning == meaning) {
                    return i;
                }
            }
            return -1;
        }

        int alikePairs(int lodge) {
            List<Sign> book = book(lodge);
            int pairs = 0;
            for (Sign one : book) {
                for (Sign other : book) {
                    pairs += one != other && apart(one, other) == 0 ? 1 : 0;
                }
            }
            return pairs / 2;
        }

        int thumbPairs(int lodge) {
            List<Sign> book = book(lodge);
            int pairs = 0;
            for (Sign one : book) {
                for (Sign other : book) {
                    pairs += apart(one, other) == 1 && one.thumb != other.thumb ? 1 : 0;
                }
            }
            return pairs / 2;
        }

        int closest(int lodge) {
            List<Sign> book = book(lodge);
            TreeSet<Integer> all = new TreeSet<>();
            for (int i = 0; i < book.size(); i++) {
                for (int j = 0; j < i; j++) {
                    all.add(apart(book.get(i), book.get(j)));
                }
            }
            return all.isEmpty() ? 0 : all.first();
        }

        int mostMistaken(int lodge) {
            List<Sign> book = book(lodge);
            int best = -1;
            long most = -1;
            for (int i = 0; i < book.size(); i++) {
                Sign one = book.get(i);
                long near = book.stream().filter(s -> s != one && apart(s, one) <= 3).count();
                if (near > most) {
                    most = near;
                    best = i;
                }
            }
            return best;
        }

        int read(int from, int sign, int to) {
            book(to);
            return read(sign(from, sign), book(to));
        }

        int readShown(int shape, int thumb, int place, int movement, int lodge) {
            List<Sign> book = book(lodge);
            argument(in(shape, 15) && in(thumb, 3) && in(place, 8) && in(movement, 3));
            return read(new Sign(shape, thumb, place, movement, 0), book);
        }

        int understood(int from, int to) {
            List<Sign> reader = book(to);
            return (int) book(from).stream().filter(s -> read(s, reader) == s.meaning).count();
        }

        int misread(int from, int to) {
            List<Sign> reader = book(to);
            return (int) book(from).stream()
                    .mapToInt(s -> read(s, reader) == s.meaning ? -1 : read(s, reader))
                    .filter(meaning -> meaning != -1).count();
        }

        int common(int one, int other) {
            book(one);
            book(other);
            int both = 0;
            for (int meaning = 0; meaning < 30; meaning++) {
                int ones = signFor(one, meaning);
                int others = signFor(other, meaning);
                if (ones != -1 && others != -1 && read(one, ones, other) == meaning
                        && read(other, others, one) == meaning) {
                    both++;
                }
            }
            return both;
        }

        int bestThumb(int lodge, int sign) {
            Sign own = sign(lodge, sign);
            int best = own.thumb;
            int farthest = -1;
            for (int thumb = 0; thumb < 4; thumb++) {
                Sign tried = own.withThumb(thumb);
                int nearest = book(lodge).stream().filter(s -> s != own)
                        .mapToInt(s -> apart(s, tried)).min().orElse(-1);
                if (nearest > farthest) {
                    farthest = nearest;
                    best = thumb;
                }
            }
            return best;
        }

        int bestToBorrow(int from, int to) {
            book(from);
            book(to);
            int best = -1;
            int most = -1;
            for (int sign = 0; sign < books.get(from).size(); sign++) {
                try {
                    int number = borrow(from, sign, to);
                    if (understood(from, to) > most) {
                        most = understood(from, to);
                        best = sign;
                    }
                    forget(to, number);
                } catch (IllegalArgumentException | IllegalStateException e) {
                    continue;
                }
            }
            return best;
        }

        int alikeIfJoined(int one, int other) {
            index(in(one, 8) && in(other, 8));
            List<Set<Integer>> before = new ArrayList<>(groups);
            join(one, other);
            int pairs = 0;
            for (int lodge = 0; lodge < books.size(); lodge++) {
                pairs += alikePairs(lodge);
            }
            groups = before;
            return pairs;
        }

        double meanSigns() {
            return books.stream().mapToInt(List::size).average().orElse(0);
        }

        long digest() {
            List<Integer> numbers = new ArrayList<>(List.of(books.size(), groups.size()));
            for (int lodge = 0; lodge < books.size(); lodge++) {
                numbers.addAll(List.of(books.get(lodge).size(), alikePairs(lodge), thumbPairs(lodge)));
                numbers.addAll(List.of(closest(lodge), mostMistaken(lodge)));
                for (int to = 0; to < books.size(); to++) {
                    numbers.addAll(List.of(understood(lodge, to), misread(lodge, to), bestToBorrow(lodge, to)));
                }
                for (int i = 0; i < books.get(lodge).size(); i++) {
                    Sign s = books.get(lodge).get(i);
                    numbers.addAll(List.of(s.shape, s.thumb, s.place, s.meaning, bestThumb(lodge, i)));
                }
            }
            long d = 2099;
            for (int number : numbers) {
                d = d * 31 + number;
            }
            return d;
        }
    }

    private interface Call {
        Object run();
    }

    private static final Set<String> SEEN = new HashSet<>();

    private static String answer(Call call) {
        try {
            return String.valueOf(call.run());
        } catch (RuntimeException e) {
            return "throws." + e.getClass().getSimpleName();
        }
    }

    /** Arguments that are mostly fine, often near the edge, and sometimes far out. */
    private static final class Draw {
        private final Random random;
        private final int spread;

        Draw(int run) {
            random = new Random(2099 + run);
            // Some runs draw from few looks, so that signs are often alike or near.
            spread = run % 4;
        }

        int upTo(int last) {
            int odd = random.nextInt(60);
            if (odd == 0) {
                return last + 1;
            }
            if (odd == 1) {
                return random.nextInt(8) == 0 ? random.nextInt() : -1;
            }
            return random.nextInt(last + 1);
        }

        int close(int last) {
            return upTo(spread == 0 ? last : Math.min(last, spread));
        }

        int next(int bound) {
            return random.nextInt(bound);
        }
    }

    private static String[] step(SignMasons x, Model y, Draw draw, int kind) {
        int lodges = Math.max(y.books.size() - 1, 0);
        int a = draw.upTo(lodges);
        int b = draw.upTo(lodges);
        int size = a >= 0 && a < y.books.size() ? y.books.get(a).size() : 1;
        int s = draw.upTo(Math.max(size - 1, 0));
        int s2 = draw.upTo(Math.max(size - 1, 0));
        int p = draw.upTo(8);
        int q = draw.upTo(8);
        int shape = draw.close(15);
        int thumb = draw.close(3);
        int movement = draw.close(3);
        int place = draw.close(8);
        int meaning = draw.upTo(29);
        String on = "(" + a + ", " + b + ", sign " + s + " " + s2 + ", places " + p + " " + q + ", look " + shape
                + " " + thumb + " " + place + " " + movement + ", meaning " + meaning + ")";
        switch (kind) {
            case 0: return say("addLodge" + on, x::addLodge, y::addLodge);
            case 1: return say("forget" + on, () -> x.forget(a, s), () -> y.forget(a, s));
            case 2: return say("setThumb" + on, () -> x.setThumb(a, s, thumb), () -> y.setThumb(a, s, thumb));
            case 3: return say("join" + on, () -> x.join(p, q), () -> y.join(p, q));
            case 4: return say("borrow" + on, () -> x.borrow(a, s, b), () -> y.borrow(a, s, b));
            case 5: return say("groups", x::groups, () -> y.groups.size());
            case 6: return say("areJoined" + on, () -> x.areJoined(p, q), () -> y.areJoined(p, q));
            case 7: return say("steps" + on, () -> x.steps(p, q), () -> y.steps(p, q));
            case 8: return say("lodges", x::lodges, () -> y.books.size());
            case 9: return say("signsOf" + on, () -> x.signsOf(a), () -> y.book(a).size());
            case 10: return say("shapeOf" + on, () -> x.shapeOf(a, s), () -> y.sign(a, s).shape);
            case 11: return say("thumbOf" + on, () -> x.thumbOf(a, s), () -> y.sign(a, s).thumb);
            case 12: return say("placeOf" + on, () -> x.placeOf(a, s), () -> y.sign(a, s).place);
            case 13: return say("meaningOf" + on, () -> x.meaningOf(a, s), () -> y.sign(a, s).meaning);
            case 14: return say("signFor" + on, () -> x.signFor(a, meaning), () -> y.signFor(a, meaning));
            case 15: return say("apart" + on, () -> x.apart(a, s, s2), () -> y.apart(y.sign(a, s), y.sign(a, s2)));
            case 16: return say("alikePairs" + on, () -> x.alikePairs(a), () -> y.alikePairs(a));
            case 17: return say("thumbPairs" + on, () -> x.thumbPairs(a), () -> y.thumbPairs(a));
            case 18: return say("closest" + on, () -> x.closest(a), () -> y.closest(a));
            case 19: return say("mostMistaken" + on, () -> x.mostMistaken(a), () -> y.mostMistaken(a));
            case 20: return say("read" + on, () -> x.read(a, s, b), () -> y.read(a, s, b));
            case 21: return say("readShown" + on, () -> x.readShown(shape, thumb, place, movement, a),
                    () -> y.readShown(shape, thumb, place, movement, a));
            case 22: return say("understood" + on, () -> x.understood(a, b), () -> y.understood(a, b));
            case 23: return say("misread" + on, () -> x.misread(a, b), () -> y.misread(a, b));
            case 24: return say("common" + on, () -> x.common(a, b), () -> y.common(a, b));
            case 25: return say("bestThumb" + on, () -> x.bestThumb(a, s), () -> y.bestThumb(a, s));
            case 26: return say("bestToBorrow" + on, () -> x.bestToBorrow(a, b), () -> y.bestToBorrow(a, b));
            case 27: return say("alikeIfJoined" + on, () -> x.alikeIfJoined(p, q), () -> y.alikeIfJoined(p, q));
            case 28: return say("meanSigns", x::meanSigns, y::meanSigns);
            case 29: return say("digest", x::digest, y::digest);
            default: return say("addSign" + on, () -> x.addSign(a, shape, thumb, place, movement, meaning),
                    () -> y.addSign(a, shape, thumb, place, movement, meaning));
        }
    }

    private static String[] say(String call, Call got, Call want) {
        String due = answer(want);
        String name = call.contains("(") ? call.substring(0, call.indexOf('(')) : call;
        SEEN.add(due.startsWith("throws.") ? name + " " + due : name);
        return new String[] {call, answer(got), due};
    }

    /** Joining and forgetting are rare in most runs, so that books fill and places differ for long. */
    private static int kindFor(Draw draw, int run) {
        int kind = draw.next(46);
        if (kind == 3 && draw.next(1 + run % 12) != 0) {
            return 30;
        }
        if (kind == 1 && draw.next(1 + run % 5) != 0) {
            return 4;
        }
        return kind;
    }

    private static boolean agrees(int run) {
        SignMasons x = new SignMasons();
        Model y = new Model();
        Draw draw = new Draw(run);
        for (int call = 1; call < CALLS; call++) {
            String[] said = step(x, y, draw, kindFor(draw, run));
            if (!said[1].equals(said[2])) {
                System.out.println("run " + run + ", call " + call + ": " + said[0] + " answered " + said[1]
                        + ", due is " + said[2]);
                return false;
            }
        }
        if (x.digest() != y.digest()) {
            System.out.println("run " + run + ": digest() at the end is not as due");
            return false;
        }
        return true;
    }

    public static void main(String[] args) {
        int wrong = 0;
        for (int run = 0; run < RUNS; run++) {
            wrong += agrees(run) ? 0 : 1;
        }
        // Guards the drawing itself: runs that never reach a rule would prove nothing about it.
        for (String rule : new String[] {"addLodge throws.IllegalStateException",
            "addSign throws.IndexOutOfBoundsException", "addSign throws.IllegalArgumentException",
            "addSign throws.IllegalStateException", "borrow throws.IndexOutOfBoundsException",
            "borrow throws.IllegalArgumentException", "borrow throws.IllegalStateException", "borrow",
            "setThumb throws.IllegalArgumentException", "readShown throws.IllegalArgumentException"}) {
            if (!SEEN.contains(rule)) {
                wrong++;
                System.out.println("no run reached " + rule);
            }
        }
        System.out.println(wrong == 0 ? "all " + RUNS + " runs agree" : wrong + " faults");
        if (wrong != 0) {
            System.exit(1);
        }
    }
}
