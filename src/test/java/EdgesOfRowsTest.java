/** The bounds that the document names for ROWS and TEXTS, sentence by sentence: promises 1 to 9. */
public final class EdgesOfRowsTest {
    private static final int MOST = Integer.MAX_VALUE;
    private static final int LEAST = Integer.MIN_VALUE;

    public static void main(String[] args) {
        sixRowsOfNoneToSixtyInts();
        fourTextsOfNoneToSixtyBytes();
        missingAtFirst();
        aNewObject();
        aRowIsThereWithZeroes();
        noRowAboveSixty();
        noRowBelowNone();
        aPlaceIsLaid();
        aPlaceIsNotLaid();
        aPlaceIsSeen();
        aPlaceIsNotSeen();
        aRowIsTorn();
        aRowIsNotTorn();
        placesAreCopied();
        placesAreCopiedOntoThemselves();
        placesAreNotCopied();
        nonePlacesAreNotCopied();
        inTheOrderOfCopy();
        theMeanIsCut();
        noMean();
        aTextIsThereWithBlanks();
        noTextAboveSixtyOrBelowNone();
        aByteIsPut();
        aByteIsNotPut();
        Checks.end();
    }

    private static void sixRowsOfNoneToSixtyInts() {
        Checks.says(0, "1 ROWS 0 .. 5 are rows of 0 to 60 ints,");
        Subject x = new Subject();
        for (int r = 0; r <= 5; r++) {
            x.answers(0, "row", r, 0);
            x.answers(60, "row", r, 60);
            x.tells(0, "lay", r, 59, r % 2 == 0 ? MOST : LEAST);
        }
        for (int r = 0; r <= 5; r++) x.tells(r % 2 == 0 ? MOST : LEAST, "at", r, 59);
        for (int r : new int[] {-1, 6, MOST, LEAST}) x.refuses(Checks.BAD, "row", r, 0);
        x.answers(6, "count", 6);
    }

    private static void fourTextsOfNoneToSixtyBytes() {
        Checks.says(0, "TEXTS 0 .. 3 rows of 0 to 60 bytes,");
        Subject x = new Subject();
        for (int t = 0; t <= 3; t++) {
            x.answers(0, "text", t, 0);
            x.answers(60, "text", t, 60);
            x.answers(1032, "put", t, 59, t);
        }
        for (int t = 0; t <= 3; t++) x.answers(1000 + t, "put", t, 59, 0);
        for (int t : new int[] {-1, 4, 5, MOST, LEAST}) x.refuses(Checks.BAD, "text", t, 0);
        x.answers(4, "count", 7);
    }

    private static void missingAtFirst() {
        Checks.says(0, "or missing (at first).");
        Subject x = new Subject();
        for (int r = 0; r <= 5; r++) x.finds(Checks.NOTHING, "at", r, 0);
        for (int t = 0; t <= 3; t++) x.finds(Checks.NOTHING, "fault", t);
    }

    private static void aNewObject() {
        Checks.says(1, "No ROWS, TEXTS, GODS; no STORES.");
        Subject x = new Subject();
        for (int what = 0; what <= 7; what++) x.answers(0, "count", what);
        x.stores(0, 0, 0);
        x.answers(0, "asked");
        x.refuses(Checks.BAD, "god", 0, 0);
    }

    private static void aRowIsThereWithZeroes() {
        Checks.says(2, "A ROW is there with n ints 0: n.");
        Subject x = new Subject();
        x.answers(60, "row", 0, 60);
        for (int i = 0; i < 60; i++) x.tells(0, "lay", 0, i, i + 1);
        x.answers(60, "row", 0, 60);
        for (int i = 0; i < 60; i++) x.tells(0, "at", 0, i);
        x.answers(0, "row", 0, 0);
        x.answers(1, "count", 6);
        x.answers(1, "row", 0, 1);
        x.holds(0, 0);
    }

    private static void noRowAboveSixty() {
        Checks.says(2, "BAD: also n above 60;");
        Subject x = new Subject();
        x.fill(0, 7, 8);
        x.refuses(Checks.BAD, "row", 0, 61);
        x.refuses(Checks.BAD, "row", 0, MOST);
        x.refuses(Checks.BAD, "row", 1, 61);
        x.refuses(Checks.BAD, "row", -1, 61);
        x.refuses(Checks.BAD, "row", 6, 61);
        x.answers(60, "row", 1, 60);
        x.holds(0, 7, 8);
    }

    private static void noRowBelowNone() {
        Checks.says(2, "SIZE: below 0.");
        Subject x = new Subject();
        x.fill(0, 7, 8);
        x.finds(Checks.SIZE, "row", 0, -1);
        x.finds(Checks.SIZE, "row", 5, LEAST);
        x.refuses(Checks.BAD, "row", 6, -1);
        x.refuses(Checks.BAD, "row", -1, -1);
        x.answers(0, "row", 5, 0);
        x.holds(0, 7, 8);
    }

    private static void aPlaceIsLaid() {
        Checks.says(3, "Place i of a ROW is v: what it was, told by asked(): 1.");
        Subject x = new Subject();
        x.call("row", 5, 60);
        x.tells(0, "lay", 5, 0, LEAST);
        x.tells(LEAST, "lay", 5, 0, MOST);
        x.tells(MOST, "lay", 5, 0, -1);
        x.tells(0, "lay", 5, 59, 5);
        x.tells(5, "lay", 5, 59, 6);
        x.tells(-1, "at", 5, 0);
        x.tells(0, "at", 5, 1);
        x.tells(0, "at", 5, 58);
        x.tells(6, "at", 5, 59);
    }

    private static void aPlaceIsNotLaid() {
        Checks.says(3, "BAD; NOTHING; BEYOND.");
        Subject x = new Subject();
        for (int r : new int[] {-1, 6, MOST, LEAST}) x.refuses(Checks.BAD, "lay", r, -1, 1);
        x.finds(Checks.NOTHING, "lay", 1, 0, 1);
        x.finds(Checks.NOTHING, "lay", 1, -1, 1);
        x.call("row", 1, 0);
        x.finds(Checks.BEYOND, "lay", 1, 0, 1);
        x.call("row", 1, 60);
        for (int i : new int[] {-1, 60, MOST, LEAST}) x.finds(Checks.BEYOND, "lay", 1, i, 1);
    }

    private static void aPlaceIsSeen() {
        Checks.says(4, "Place i of a ROW, told by asked(): 1.");
        Subject x = new Subject();
        x.fill(0, MOST, 0, LEAST);
        x.tells(MOST, "at", 0, 0);
        x.tells(0, "at", 0, 1);
        x.tells(LEAST, "at", 0, 2);
        x.tells(MOST, "at", 0, 0);
    }

    private static void aPlaceIsNotSeen() {
        Checks.says(4, "BAD; NOTHING; BEYOND.");
        Subject x = new Subject();
        for (int r : new int[] {-1, 6, MOST, LEAST}) x.refuses(Checks.BAD, "at", r, -1);
        x.finds(Checks.NOTHING, "at", 1, 0);
        x.finds(Checks.NOTHING, "at", 1, -1);
        x.call("row", 1, 0);
        x.finds(Checks.BEYOND, "at", 1, 0);
        x.call("row", 1, 60);
        for (int i : new int[] {-1, 60, MOST, LEAST}) x.finds(Checks.BEYOND, "at", 1, i);
    }

    private static void aRowIsTorn() {
        Checks.says(5, "A ROW is missing: 1.");
        Subject x = new Subject();
        x.call("row", 0, 0);
        x.call("row", 5, 60);
        x.answers(1, "tear", 0);
        x.answers(1, "count", 6);
        x.answers(1, "tear", 5);
        x.answers(0, "count", 6);
        x.finds(Checks.NOTHING, "at", 5, 0);
        x.answers(60, "row", 5, 60);
    }

    private static void aRowIsNotTorn() {
        Checks.says(5, "BAD; NOTHING.");
        Subject x = new Subject();
        for (int r : new int[] {-1, 6, MOST, LEAST}) x.refuses(Checks.BAD, "tear", r);
        x.finds(Checks.NOTHING, "tear", 0);
        x.call("row", 0, 1);
        x.call("tear", 0);
        x.finds(Checks.NOTHING, "tear", 0);
        x.finds(Checks.NOTHING, "tear", 5);
    }

    private static void placesAreCopied() {
        Checks.says(6, "n places of a ROW, from one on, come to those of another one");
        Subject x = new Subject();
        x.fill(0, 1, 2, 3);
        x.fill(5, 7, 8, 9);
        x.answers(1, "copy", 0, 0, 5, 0, 0);
        x.holds(5, 7, 8, 9);
        x.answers(1, "copy", 0, 2, 5, 0, 1);
        x.holds(5, 3, 8, 9);
        x.answers(1, "copy", 0, 0, 5, 1, 2);
        x.holds(5, 3, 1, 2);
        x.answers(1, "copy", 5, 0, 0, 0, 3);
        x.holds(0, 3, 1, 2);
        x.holds(5, 3, 1, 2);
        x.call("row", 1, 60);
        x.call("row", 2, 60);
        x.call("lay", 1, 59, 4);
        x.answers(1, "copy", 1, 0, 2, 0, 60);
        x.tells(4, "at", 2, 59);
    }

    private static void placesAreCopiedOntoThemselves() {
        Checks.says(6, "(perhaps itself) from one on, as if taken ahead: 1.");
        Subject x = new Subject();
        x.fill(0, 1, 2, 3, 4);
        x.answers(1, "copy", 0, 0, 0, 1, 3);
        x.holds(0, 1, 1, 2, 3);
        x.answers(1, "copy", 0, 1, 0, 0, 3);
        x.holds(0, 1, 2, 3, 3);
        x.answers(1, "copy", 0, 0, 0, 0, 4);
        x.holds(0, 1, 2, 3, 3);
    }

    private static void placesAreNotCopied() {
        Checks.says(6, "BAD; SIZE: n below 0; NOTHING: either; BEYOND: not so many there");
        Subject x = new Subject();
        x.fill(0, 1, 2, 3);
        x.fill(1, 4, 5);
        for (int r : new int[] {-1, 6, MOST, LEAST}) {
            x.refuses(Checks.BAD, "copy", r, 0, 1, 0, 0);
            x.refuses(Checks.BAD, "copy", 0, 0, r, 0, 0);
        }
        x.finds(Checks.SIZE, "copy", 0, 0, 1, 0, -1);
        x.finds(Checks.SIZE, "copy", 0, 0, 1, 0, LEAST);
        x.finds(Checks.NOTHING, "copy", 2, 0, 1, 0, 1);
        x.finds(Checks.NOTHING, "copy", 0, 0, 2, 0, 1);
        x.finds(Checks.BEYOND, "copy", 0, 2, 1, 0, 2);
        x.finds(Checks.BEYOND, "copy", 0, 0, 1, 1, 2);
        x.finds(Checks.BEYOND, "copy", 0, 0, 1, 0, 3);
        x.finds(Checks.BEYOND, "copy", 1, 0, 0, 0, 3);
        x.finds(Checks.BEYOND, "copy", 0, 1, 1, 1, MOST);
        x.finds(Checks.BEYOND, "copy", 0, -1, 1, 0, 1);
        x.finds(Checks.BEYOND, "copy", 0, 0, 1, -1, 1);
        x.finds(Checks.BEYOND, "copy", 0, MOST, 1, 0, MOST);
        x.finds(Checks.BEYOND, "copy", 0, 0, 1, MOST, 1);
    }

    private static void nonePlacesAreNotCopied() {
        Checks.says(6, "(also with n 0, if i, j is below 0, or above its size).");
        Subject x = new Subject();
        x.fill(0, 1, 2, 3);
        x.call("row", 1, 0);
        x.answers(1, "copy", 0, 3, 1, 0, 0);
        x.answers(1, "copy", 1, 0, 0, 3, 0);
        for (int i : new int[] {-1, 4, MOST, LEAST}) {
            x.finds(Checks.BEYOND, "copy", 0, i, 1, 0, 0);
            x.finds(Checks.BEYOND, "copy", 1, 0, 0, i, 0);
        }
        x.finds(Checks.BEYOND, "copy", 1, 1, 0, 0, 0);
        x.finds(Checks.BEYOND, "copy", 0, 0, 1, 1, 0);
    }

    private static void inTheOrderOfCopy() {
        Checks.says(6, "(In this order.)");
        Subject x = new Subject();
        x.call("row", 1, 0);
        x.refuses(Checks.BAD, "copy", 6, -1, 2, -1, -1);
        x.refuses(Checks.BAD, "copy", 2, -1, 6, -1, -1);
        x.finds(Checks.SIZE, "copy", 2, -1, 3, -1, -1);
        x.finds(Checks.NOTHING, "copy", 2, -1, 1, -1, 9);
        x.finds(Checks.NOTHING, "copy", 1, -1, 2, -1, 9);
        x.finds(Checks.BEYOND, "copy", 1, -1, 1, -1, 9);
    }

    private static void theMeanIsCut() {
        Checks.says(7, "The mean of a ROW's ints, cut, told by asked(): 1.");
        int[][] rows = {{8}, {3, 4}, {-3, -4}, {-1, 0}, {1, 0}, {0, 0, 2}, {0, 0, -2}, {LEAST, MOST}, {LEAST}, {MOST, 0}};
        int[] means = {8, 3, -3, 0, 0, 0, 0, 0, LEAST, MOST / 2};
        Subject x = new Subject();
        for (int i = 0; i < rows.length; i++) {
            x.fill(0, rows[i]);
            x.tells(means[i], "mean", 0);
        }
        for (int v : new int[] {MOST, LEAST}) {
            x.fillAlike(0, 60, v);
            x.tells(v, "mean", 0);
        }
    }

    private static void noMean() {
        Checks.says(7, "BAD; NOTHING; NOUGHT.");
        Subject x = new Subject();
        for (int r : new int[] {-1, 6, MOST, LEAST}) x.refuses(Checks.BAD, "mean", r);
        x.finds(Checks.NOTHING, "mean", 5);
        x.call("row", 5, 0);
        x.finds(Checks.NOUGHT, "mean", 5);
        x.call("row", 5, 1);
        x.tells(0, "mean", 5);
    }

    private static void aTextIsThereWithBlanks() {
        Checks.says(8, "A TEXT is there with n blanks: n.");
        Subject x = new Subject();
        for (int again = 0; again < 2; again++) {
            x.answers(60, "text", 0, 60);
            for (int i = 0; i < 60; i++) x.answers(1032, "put", 0, i, 7);
        }
        x.answers(0, "text", 0, 0);
        x.answers(1, "count", 7);
        x.answers(1, "text", 0, 1);
        x.answers(1032, "put", 0, 0, 0);
        x.finds(Checks.BEYOND, "put", 0, 1, 0);
    }

    private static void noTextAboveSixtyOrBelowNone() {
        Checks.says(8, "BAD: also n above 60; SIZE: below 0.");
        Subject x = new Subject();
        x.write(0, "f123");
        x.refuses(Checks.BAD, "text", 0, 61);
        x.refuses(Checks.BAD, "text", 0, MOST);
        x.refuses(Checks.BAD, "text", 4, 61);
        x.refuses(Checks.BAD, "text", 4, -1);
        x.refuses(Checks.BAD, "text", -1, -1);
        x.finds(Checks.SIZE, "text", 0, -1);
        x.finds(Checks.SIZE, "text", 3, LEAST);
        x.answers(Checks.NONE, "fault", 0);
        x.answers(60, "text", 3, 60);
        x.answers(0, "text", 3, 0);
    }

    private static void aByteIsPut() {
        Checks.says(9, "Byte i of a TEXT is v, cut to a byte (-128 .. 127): what it was, and 1000 more.");
        int[] values = {0, 127, 128, 129, 255, 256, -1, -128, -129, 1000, MOST, LEAST};
        int[] bytes = {0, 127, -128, -127, -1, 0, -1, -128, 127, -24, -1, 0};
        Subject x = new Subject();
        x.call("text", 0, 60);
        int before = 32;
        for (int i = 0; i < values.length; i++) {
            x.answers(1000 + before, "put", 0, 59, values[i]);
            before = bytes[i];
        }
        x.answers(1000 + before, "put", 0, 59, 32);
        x.answers(1032, "put", 0, 0, 1);
        x.answers(1001, "put", 0, 0, 1);
        x.answers(1032, "put", 0, 1, 1);
    }

    private static void aByteIsNotPut() {
        Checks.says(9, "BAD; NOTHING; BEYOND.");
        Subject x = new Subject();
        for (int t : new int[] {-1, 4, MOST, LEAST}) x.refuses(Checks.BAD, "put", t, -1, 1);
        x.finds(Checks.NOTHING, "put", 3, 0, 1);
        x.finds(Checks.NOTHING, "put", 3, -1, 1);
        x.call("text", 3, 0);
        x.finds(Checks.BEYOND, "put", 3, 0, 1);
        x.call("text", 3, 60);
        for (int i : new int[] {-1, 60, MOST, LEAST}) x.finds(Checks.BEYOND, "put", 3, i, 1);
    }
}
