/** Sign books of deaf masons. */
public final class SignMasons {
    private static final int MOST_LODGES = 4;
    private static final int MOST_SIGNS = 16;
    private static final int SHAPES = 16;
    private static final int THUMBS = 4;
    private static final int PLACES = 9;
    private static final int PLACES_IN_ROW = 3;
    private static final int MOVEMENTS = 4;
    private static final int MEANINGS = 30;
    private static final int MOVEMENT_WEIGHT = 2;
    private static final int FARTHEST_READ = 3;
    private static final int BEYOND_ALL = 100;
    private static final int NONE = -1;
    private static final long DIGEST_START = 2099;
    private static final long DIGEST_FACTOR = 31;

    private final Places places;
    /** All books stand from the start, so that none is ever null; the first lodgeCount are in use. */
    private final Book[] books;
    /** A copy of a book to try a loan in, so that asking changes no lodge's book. */
    private final Book trial;
    private int lodgeCount;

    public SignMasons() {
        places = new Places();
        books = new Book[MOST_LODGES];
        for (int i = 0; i < MOST_LODGES; i++) {
            books[i] = new Book(places);
        }
        trial = new Book(places);
        lodgeCount = 0;
    }

    // ---- lodges and signs

    /** Returns the number of a new lodge. */
    public int addLodge() throws IllegalStateException {
        if (lodgeCount >= MOST_LODGES) {
            throw new IllegalStateException("there are 4 lodges");
        }
        lodgeCount++;
        return lodgeCount - 1;
    }

    /** Puts a sign into the book of a lodge and returns its number. */
    public int addSign(int lodge, int shape, int thumb, int place, int movement, int meaning)
            throws IndexOutOfBoundsException, IllegalArgumentException, IllegalStateException {
        Book book = bookOf(lodge);
        checkLook(shape, thumb, place, movement);
        if (!isBelow(meaning, MEANINGS)) {
            throw new IllegalArgumentException("meaning is not 0 to 29");
        }
        if (!book.hasRoomFor(meaning)) {
            throw new IllegalStateException("the book has 16 signs, or one for this meaning");
        }
        return book.append(Look.of(shape, thumb, place, movement), meaning);
    }

    /** Takes a sign out of a book and returns its meaning. */
    public int forget(int lodge, int sign) throws IndexOutOfBoundsException {
        Book book = bookOf(lodge);
        checkSign(book, sign);
        return book.remove(sign);
    }

    /** Moves the thumb of a sign and returns the one before. */
    public int setThumb(int lodge, int sign, int thumb)
            throws IndexOutOfBoundsException, IllegalArgumentException {
        Book book = bookOf(lodge);
        checkSign(book, sign);
        if (!isBelow(thumb, THUMBS)) {
            throw new IllegalArgumentException("thumb is not 0 to 3");
        }
        int before = Look.thumb(book.looks[sign]);
        book.looks[sign] = Look.withThumb(book.looks[sign], thumb);
        return before;
    }

    /** Joins two places and returns how many groups of places there are then. */
    public int join(int one, int other) throws IndexOutOfBoundsException {
        checkPlace(one);
        checkPlace(other);
        places.unite(one, other);
        return places.groupCount;
    }

    /** Lets a lodge borrow a sign of another one and returns its number in the borrower's book. */
    public int borrow(int from, int sign, int to)
            throws IndexOutOfBoundsException, IllegalArgumentException, IllegalStateException {
        Book giver = bookOf(from);
        Book taker = bookOf(to);
        checkSign(giver, sign);
        if (from == to) {
            throw new IllegalArgumentException("both lodges are the same");
        }
        int meaning = giver.meanings[sign];
        if (!taker.hasRoomFor(meaning)) {
            throw new IllegalStateException("the book has 16 signs, or one for this meaning");
        }
        int look = taker.firstUnlike(giver.looks[sign]);
        if (look == NONE) {
            throw new IllegalStateException("it would be alike to some sign with each thumb");
        }
        return taker.append(look, meaning);
    }

    // ---- places

    /** Returns how many groups of places there are. */
    public int groups() {
        return places.groupCount;
    }

    /** Returns whether both places are in the same group. */
    public boolean areJoined(int one, int other) throws IndexOutOfBoundsException {
        checkPlace(one);
        checkPlace(other);
        return places.sameGroup(one, other);
    }

    /** Returns how many steps there are between both places. */
    public int steps(int one, int other) throws IndexOutOfBoundsException {
        checkPlace(one);
        checkPlace(other);
        return places.stepsBetween(one, other);
    }

    // ---- books

    /** Returns how many lodges there are. */
    public int lodges() {
        return lodgeCount;
    }

    /** Returns how many signs the book of a lodge has. */
    public int signsOf(int lodge) throws IndexOutOfBoundsException {
        return bookOf(lodge).count;
    }

    /** Returns the handshape of a sign. */
    public int shapeOf(int lodge, int sign) throws IndexOutOfBoundsException {
        return Look.shape(lookOf(lodge, sign));
    }

    /** Returns the thumb of a sign. */
    public int thumbOf(int lodge, int sign) throws IndexOutOfBoundsException {
        return Look.thumb(lookOf(lodge, sign));
    }

    /** Returns the place of a sign. */
    public int placeOf(int lodge, int sign) throws IndexOutOfBoundsException {
        return Look.place(lookOf(lodge, sign));
    }

    /** Returns the meaning of a sign. */
    public int meaningOf(int lodge, int sign) throws IndexOutOfBoundsException {
        Book book = bookOf(lodge);
        checkSign(book, sign);
        return book.meanings[sign];
    }

    /** Returns the sign of a lodge for a meaning; -1 if there is none. */
    public int signFor(int lodge, int meaning) throws IndexOutOfBoundsException {
        Book book = bookOf(lodge);
        if (!isBelow(meaning, MEANINGS)) {
            throw new IndexOutOfBoundsException("meaning is not 0 to 29");
        }
        return book.find(meaning);
    }

    // ---- how signs differ

    /** Returns how far two signs of a lodge are apart. */
    public int apart(int lodge, int one, int other) throws IndexOutOfBoundsException {
        Book book = bookOf(lodge);
        checkSign(book, one);
        checkSign(book, other);
        return places.distance(book.looks[one], book.looks[other]);
    }

    /** Returns how many pairs of signs of a book are alike. */
    public int alikePairs(int lodge) throws IndexOutOfBoundsException {
        return bookOf(lodge).countAlike();
    }

    /** Returns how many pairs of signs of a book are 1 apart, and differ by the thumb. */
    public int thumbPairs(int lodge) throws IndexOutOfBoundsException {
        return bookOf(lodge).countThumbApart();
    }

    /** Returns how far the two closest signs of a book are apart; 0 with fewer than two. */
    public int closest(int lodge) throws IndexOutOfBoundsException {
        return bookOf(lodge).fewestApart();
    }

    /** Returns the sign that is near the most others of its book; -1 without signs. */
    public int mostMistaken(int lodge) throws IndexOutOfBoundsException {
        return bookOf(lodge).signNearMost();
    }

    // ---- reading

    /** Returns the meaning as which a sign of one lodge is read in another; -1 if it is not read. */
    public int read(int from, int sign, int to) throws IndexOutOfBoundsException {
        Book reader = bookOf(to);
        return reader.meaningRead(lookOf(from, sign));
    }

    /** Returns the meaning as which such a sign is read in a lodge; -1 if it is not read. */
    public int readShown(int shape, int thumb, int place, int movement, int lodge)
            throws IndexOutOfBoundsException, IllegalArgumentException {
        Book reader = bookOf(lodge);
        checkLook(shape, thumb, place, movement);
        return reader.meaningRead(Look.of(shape, thumb, place, movement));
    }

    /** Returns how many signs of the first lodge are read in the second one as what they mean. */
    public int understood(int from, int to) throws IndexOutOfBoundsException {
        Book shown = bookOf(from);
        return bookOf(to).countUnderstood(shown);
    }

    /** Returns how many signs of the first lodge are read in the second one as something else. */
    public int misread(int from, int to) throws IndexOutOfBoundsException {
        Book shown = bookOf(from);
        return bookOf(to).countMisread(shown);
    }

    /** Returns how many meanings both lodges sign so that each understands the other. */
    public int common(int one, int other) throws IndexOutOfBoundsException {
        Book first = bookOf(one);
        return bookOf(other).countCommon(first);
    }

    // ---- what would be

    /** Returns the thumb with which a sign is the farthest from the nearest other one. */
    public int bestThumb(int lodge, int sign) throws IndexOutOfBoundsException {
        Book book = bookOf(lodge);
        checkSign(book, sign);
        return book.thumbFarthest(sign);
    }

    /** Returns the sign of the first lodge that the second one had best borrow now; -1 for none. */
    public int bestToBorrow(int from, int to) throws IndexOutOfBoundsException {
        Book giver = bookOf(from);
        Book taker = bookOf(to);
        if (from == to) {
            return NONE;
        }
        int best = NONE;
        int most = NONE;
        for (int sign = 0; sign < giver.count; sign++) {
            if (tryLoan(giver, sign, taker)) {
                int count = trial.countUnderstood(giver);
                if (count > most) {
                    most = count;
                    best = sign;
                }
            }
        }
        return best;
    }

    /** Returns how many pairs of signs would be alike, in all books, if both places were joined. */
    public int alikeIfJoined(int one, int other) throws IndexOutOfBoundsException {
        checkPlace(one);
        checkPlace(other);
        int pairs = 0;
        for (int lodge = 0; lodge < lodgeCount; lodge++) {
            pairs += books[lodge].countAlikeIfJoined(one, other);
        }
        return pairs;
    }

    /** Returns the mean number of signs in books; 0 without lodges. */
    public double meanSigns() {
        if (lodgeCount == 0) {
            return 0;
        }
        int signs = 0;
        for (int lodge = 0; lodge < lodgeCount; lodge++) {
            signs += books[lodge].count;
        }
        return (double) signs / lodgeCount;
    }

    /** Computes a checksum of all that can be asked. */
    public long digest() {
        long d = DIGEST_START;
        d = mix(d, lodgeCount);
        d = mix(d, places.groupCount);
        for (int lodge = 0; lodge < lodgeCount; lodge++) {
            d = mixBook(d, books[lodge]);
            for (int to = 0; to < lodgeCount; to++) {
                d = mix(d, books[to].countUnderstood(books[lodge]));
                d = mix(d, books[to].countMisread(books[lodge]));
                d = mix(d, bestToBorrow(lodge, to));
            }
            d = mixSigns(d, books[lodge]);
        }
        return d;
    }

    // ---- helpers

    private static long mix(long d, long x) {
        return d * DIGEST_FACTOR + x;
    }

    private static long mixBook(long before, Book book) {
        long d = mix(before, book.count);
        d = mix(d, book.countAlike());
        d = mix(d, book.countThumbApart());
        d = mix(d, book.fewestApart());
        return mix(d, book.signNearMost());
    }

    private static long mixSigns(long before, Book book) {
        long d = before;
        for (int sign = 0; sign < book.count; sign++) {
            int look = book.looks[sign];
            d = mix(d, Look.shape(look));
            d = mix(d, Look.thumb(look));
            d = mix(d, Look.place(look));
            d = mix(d, book.meanings[sign]);
            d = mix(d, book.thumbFarthest(sign));
        }
        return d;
    }

    /** Makes the trial book what the taker's would be with this loan; false if it can't borrow it. */
    private boolean tryLoan(Book giver, int sign, Book taker) {
        int meaning = giver.meanings[sign];
        if (!taker.hasRoomFor(meaning)) {
            return false;
        }
        int look = taker.firstUnlike(giver.looks[sign]);
        if (look == NONE) {
            return false;
        }
        trial.copyFrom(taker);
        trial.append(look, meaning);
        return true;
    }

    private static boolean isBelow(int value, int bound) {
        return value >= 0 && value < bound;
    }

    private Book bookOf(int lodge) {
        if (!isBelow(lodge, lodgeCount)) {
            throw new IndexOutOfBoundsException("there is no such lodge");
        }
        return books[lodge];
    }

    private int lookOf(int lodge, int sign) {
        Book book = bookOf(lodge);
        checkSign(book, sign);
        return book.looks[sign];
    }

    private static void checkSign(Book book, int sign) {
        if (!isBelow(sign, book.count)) {
            throw new IndexOutOfBoundsException("the lodge has no such sign");
        }
    }

    private static void checkPlace(int place) {
        if (!isBelow(place, PLACES)) {
            throw new IndexOutOfBoundsException("place is not 0 to 8");
        }
    }

    private static void checkLook(int shape, int thumb, int place, int movement) {
        if (!isBelow(shape, SHAPES)) {
            throw new IllegalArgumentException("shape is not 0 to 15");
        }
        if (!isBelow(thumb, THUMBS)) {
            throw new IllegalArgumentException("thumb is not 0 to 3");
        }
        if (!isBelow(place, PLACES)) {
            throw new IllegalArgumentException("place is not 0 to 8");
        }
        if (!isBelow(movement, MOVEMENTS)) {
            throw new IllegalArgumentException("movement is not 0 to 3");
        }
    }

    /**
     * What can be seen of a sign, its handshape, thumb, place and movement, in the bits of one int:
     * a sign with another thumb is then tried without making an object. No look is negative.
     */
    private static final class Look {
        private static final int THUMB_SHIFT = 4;
        private static final int MOVEMENT_SHIFT = 6;
        private static final int PLACE_SHIFT = 8;
        private static final int SHAPE_MASK = 15;
        private static final int TWO_BITS = 3;
        private static final int PLACE_MASK = 15;

        private Look() {
        }

        private static int of(int shape, int thumb, int place, int movement) {
            return shape | (thumb << THUMB_SHIFT) | (movement << MOVEMENT_SHIFT) | (place << PLACE_SHIFT);
        }

        private static int shape(int look) {
            return look & SHAPE_MASK;
        }

        private static int thumb(int look) {
            return (look >> THUMB_SHIFT) & TWO_BITS;
        }

        private static int movement(int look) {
            return (look >> MOVEMENT_SHIFT) & TWO_BITS;
        }

        private static int place(int look) {
            return (look >> PLACE_SHIFT) & PLACE_MASK;
        }

        private static int withThumb(int look, int thumb) {
            return (look & ~(TWO_BITS << THUMB_SHIFT)) | (thumb << THUMB_SHIFT);
        }

        private static boolean sameButForPlace(int one, int other) {
            return ((one ^ other) & ~(PLACE_MASK << PLACE_SHIFT)) == 0;
        }
    }

    /** The places and their groups, and how far apart looks are with these. */
    private static final class Places {
        private final int[] groupAt;
        private int groupCount;

        private Places() {
            groupAt = new int[PLACES];
            for (int place = 0; place < PLACES; place++) {
                groupAt[place] = place;
            }
            groupCount = PLACES;
        }

        private void unite(int one, int other) {
            int kept = groupAt[one];
            int ended = groupAt[other];
            if (kept == ended) {
                return;
            }
            for (int place = 0; place < PLACES; place++) {
                if (groupAt[place] == ended) {
                    groupAt[place] = kept;
                }
            }
            groupCount--;
        }

        private boolean sameGroup(int one, int other) {
            return groupAt[one] == groupAt[other];
        }

        /** Whether two places would be in the same group, if the places left and right were joined. */
        private boolean sameGroupIf(int left, int right, int one, int other) {
            return sameGroup(one, other)
                    || (sameGroup(one, left) && sameGroup(other, right))
                    || (sameGroup(one, right) && sameGroup(other, left));
        }

        private int stepsBetween(int one, int other) {
            if (sameGroup(one, other)) {
                return 0;
            }
            int rows = Math.abs(one / PLACES_IN_ROW - other / PLACES_IN_ROW);
            int columns = Math.abs(one % PLACES_IN_ROW - other % PLACES_IN_ROW);
            return rows + columns;
        }

        /** Whether two looks are 0 apart: each part of the distance is 0 just if it does not differ. */
        private boolean alike(int one, int other) {
            return Look.sameButForPlace(one, other) && sameGroup(Look.place(one), Look.place(other));
        }

        private boolean alikeIf(int left, int right, int one, int other) {
            return Look.sameButForPlace(one, other)
                    && sameGroupIf(left, right, Look.place(one), Look.place(other));
        }

        private int distance(int one, int other) {
            int fingers = Integer.bitCount(Look.shape(one) ^ Look.shape(other));
            int thumb = Look.thumb(one) == Look.thumb(other) ? 0 : 1;
            int movement = Look.movement(one) == Look.movement(other) ? 0 : MOVEMENT_WEIGHT;
            return fingers + thumb + movement + stepsBetween(Look.place(one), Look.place(other));
        }
    }

    /** The book of a lodge: its signs, each a look and a meaning, in the order of their numbers. */
    private static final class Book {
        private final Places places;
        private final int[] looks;
        private final int[] meanings;
        private int count;

        private Book(Places places) {
            this.places = places;
            looks = new int[MOST_SIGNS];
            meanings = new int[MOST_SIGNS];
            count = 0;
        }

        private void copyFrom(Book source) {
            System.arraycopy(source.looks, 0, looks, 0, MOST_SIGNS);
            System.arraycopy(source.meanings, 0, meanings, 0, MOST_SIGNS);
            count = source.count;
        }

        private boolean hasRoomFor(int meaning) {
            return count < MOST_SIGNS && find(meaning) == NONE;
        }

        /** Appends a sign to a book that has room for it. */
        private int append(int look, int meaning) {
            int sign = count;
            if (sign >= MOST_SIGNS) {
                return NONE;
            }
            looks[sign] = look;
            meanings[sign] = meaning;
            count++;
            return sign;
        }

        private int remove(int sign) {
            int meaning = meanings[sign];
            for (int i = sign + 1; i < count; i++) {
                looks[i - 1] = looks[i];
                meanings[i - 1] = meanings[i];
            }
            count--;
            return meaning;
        }

        private int find(int meaning) {
            for (int sign = 0; sign < count; sign++) {
                if (meanings[sign] == meaning) {
                    return sign;
                }
            }
            return NONE;
        }

        private boolean hasAlike(int look) {
            for (int sign = 0; sign < count; sign++) {
                if (places.alike(look, looks[sign])) {
                    return true;
                }
            }
            return false;
        }

        /** The look, with its own thumb or the first behind it, that no sign is alike to; or NONE. */
        private int firstUnlike(int look) {
            int own = Look.thumb(look);
            for (int turn = 0; turn < THUMBS; turn++) {
                int turned = Look.withThumb(look, (own + turn) % THUMBS);
                if (!hasAlike(turned)) {
                    return turned;
                }
            }
            return NONE;
        }

        private int countAlike() {
            int pairs = 0;
            for (int one = 0; one < count; one++) {
                for (int other = one + 1; other < count; other++) {
                    if (places.alike(looks[one], looks[other])) {
                        pairs++;
                    }
                }
            }
            return pairs;
        }

        private int countAlikeIfJoined(int left, int right) {
            int pairs = 0;
            for (int one = 0; one < count; one++) {
                for (int other = one + 1; other < count; other++) {
                    if (places.alikeIf(left, right, looks[one], looks[other])) {
                        pairs++;
                    }
                }
            }
            return pairs;
        }

        private int countThumbApart() {
            int pairs = 0;
            for (int one = 0; one < count; one++) {
                for (int other = one + 1; other < count; other++) {
                    if (Look.thumb(looks[one]) != Look.thumb(looks[other])
                            && places.distance(looks[one], looks[other]) == 1) {
                        pairs++;
                    }
                }
            }
            return pairs;
        }

        /** How far such a look is from the nearest sign but this one; the book has another one. */
        private int nearestBut(int sign, int look) {
            int fewest = BEYOND_ALL;
            for (int other = 0; other < count; other++) {
                if (other != sign) {
                    fewest = Math.min(fewest, places.distance(look, looks[other]));
                }
            }
            return fewest;
        }

        private int fewestApart() {
            if (count < 2) {
                return 0;
            }
            int fewest = BEYOND_ALL;
            for (int sign = 0; sign < count; sign++) {
                fewest = Math.min(fewest, nearestBut(sign, looks[sign]));
            }
            return fewest;
        }

        private int countNear(int sign) {
            int near = 0;
            for (int other = 0; other < count; other++) {
                if (other != sign && places.distance(looks[sign], looks[other]) <= FARTHEST_READ) {
                    near++;
                }
            }
            return near;
        }

        private int signNearMost() {
            int found = NONE;
            int most = NONE;
            for (int sign = 0; sign < count; sign++) {
                int near = countNear(sign);
                if (near > most) {
                    most = near;
                    found = sign;
                }
            }
            return found;
        }

        private int thumbFarthest(int sign) {
            int look = looks[sign];
            if (count < 2) {
                return Look.thumb(look);
            }
            int best = 0;
            int farthest = NONE;
            for (int thumb = 0; thumb < THUMBS; thumb++) {
                int nearest = nearestBut(sign, Look.withThumb(look, thumb));
                if (nearest > farthest) {
                    farthest = nearest;
                    best = thumb;
                }
            }
            return best;
        }

        /** The meaning as which such a look is read with this book; NONE if it is not read. */
        private int meaningRead(int look) {
            // Starting just behind the farthest that is read leaves all farther signs unread.
            int fewest = FARTHEST_READ + 1;
            int meaning = NONE;
            for (int sign = 0; sign < count; sign++) {
                int distance = places.distance(look, looks[sign]);
                if (distance < fewest) {
                    fewest = distance;
                    meaning = meanings[sign];
                } else if (distance == fewest) {
                    meaning = NONE;
                }
            }
            return meaning;
        }

        /** How many signs of the shown book are read with this one as what they mean. */
        private int countUnderstood(Book shown) {
            int signs = 0;
            for (int sign = 0; sign < shown.count; sign++) {
                if (meaningRead(shown.looks[sign]) == shown.meanings[sign]) {
                    signs++;
                }
            }
            return signs;
        }

        private int countMisread(Book shown) {
            int signs = 0;
            for (int sign = 0; sign < shown.count; sign++) {
                int meaning = meaningRead(shown.looks[sign]);
                if (meaning != NONE && meaning != shown.meanings[sign]) {
                    signs++;
                }
            }
            return signs;
        }

        private int countCommon(Book partner) {
            int signs = 0;
            for (int sign = 0; sign < count; sign++) {
                int meaning = meanings[sign];
                int theirs = partner.find(meaning);
                if (theirs != NONE
                        && partner.meaningRead(looks[sign]) == meaning
                        && meaningRead(partner.looks[theirs]) == meaning) {
                    signs++;
                }
            }
            return signs;
        }
    }
}
