/** Boundary cases of promises 33 to 39: sheets, an image. */
final class BoundsOfSheets extends Samples {
    private BoundsOfSheets() {
    }

    static void tell(Sentences told) {
        told.under("Promise 33: sheet");
        told.has("A SHEET becomes a row of n of a sort, all 0, or missing (sort -1; n doesn't matter): 1.", BoundsOfSheets::shortestToLongest);
        told.has("BAD: s, sort, n above 12", BoundsOfSheets::badSheet);
        told.has("SIZE: n below 0.", BoundsOfSheets::belowZero);
        told.under("Promise 34: cell");
        told.has("BAD: s", BoundsOfSheets::badCell);
        told.has("NOTHING", BoundsOfSheets::cellOfNothing);
        told.has("PLACE", BoundsOfSheets::noPlaceForACell);
        told.has("MUCH: it is no int, and the row is one of ints.", BoundsOfSheets::noInt);
        told.under("Promise 35: read");
        told.has("BAD: s", BoundsOfSheets::badRead);
        told.has("NOTHING", BoundsOfSheets::nothingToRead);
        told.has("PLACE.", BoundsOfSheets::noPlaceToRead);
        told.under("Promise 36: copy");
        told.has("n numbers of a SHEET, from place i on, come to another one (or the same), from place j on, as they were: n.", BoundsOfSheets::copyToEnds);
        told.has("BAD: a sheet", BoundsOfSheets::badCopy);
        told.has("NOTHING: one is missing", BoundsOfSheets::copyOfNothing);
        told.has("KIND: they are of unlike sorts", BoundsOfSheets::copyOfUnlike);
        told.has("PLACE (also n below 0).", BoundsOfSheets::noPlaceToCopy);
        told.under("Promise 37: image");
        told.has("AN IMAGE is kept: how many LINES.", BoundsOfSheets::imageOfNoneToSix);
        told.under("Promise 38: back");
        told.has("All that it keeps is as in THE IMAGE: how many LINES.", BoundsOfSheets::backToAll);
        told.has("STATE: there is none.", BoundsOfSheets::noImage);
        told.under("Promise 39: count");
        told.has("0 VARIABLES, 1 LINES, 2 T, 3 LINES that are ON.", BoundsOfSheets::countAtEnds);
        told.has("BAD.", BoundsOfSheets::badCount);
    }

    private static void shortestToLongest() {
        for (int s = 0; s <= 3; s++) {
            for (int sort = INTS; sort <= LONGS; sort++) {
                for (int n = 0; n <= 12; n++) {
                    LeastInBounds x = furnished();
                    Due.is("a row of " + n, x.sheet(s, sort, n), 1);
                    sheetIs("all 0", x, s, new long[n]);
                    Due.is("of its sort", x.cell(s, 0, 1L << 40), n == 0 ? PLACE : sort == INTS ? MUCH : 1);
                    for (int i = 0; i < n; i++) {
                        x.cell(s, i, 7 + i);
                    }
                    Due.is("once more", x.sheet(s, sort, n), 1);
                    sheetIs("all 0 again", x, s, new long[n]);
                }
            }
            for (int n : new int[] {LEAST_INT, -1, 0, 1, 12, 13, MOST_INT}) {
                LeastInBounds x = furnished();
                Due.is("n doesn't matter", x.sheet(s, MISSING, n), 1);
                Due.refused("missing", x.read(s, 0), NOTHING);
                Due.is("missing once more", x.sheet(s, MISSING, n), 1);
            }
        }
    }

    private static void badSheet() {
        Refused.ints(BAD, Samples::furnished, x -> x.sheet(4, INTS, 1), x -> x.sheet(-1, INTS, 1), x -> x.sheet(LEAST_INT, LONGS, 1),
            x -> x.sheet(MOST_INT, LONGS, 1), x -> x.sheet(4, MISSING, 0), x -> x.sheet(-1, MISSING, 0), x -> x.sheet(0, 2, 1), x -> x.sheet(0, -2, 1),
            x -> x.sheet(0, LEAST_INT, 1), x -> x.sheet(0, MOST_INT, 1), x -> x.sheet(0, INTS, 13), x -> x.sheet(0, LONGS, 13),
            x -> x.sheet(1, INTS, MOST_INT), x -> x.sheet(3, LONGS, MOST_INT), x -> x.sheet(3, 2, 13));
        Due.is("12", furnished().sheet(3, INTS, 12), 1);
    }

    private static void belowZero() {
        Refused.ints(SIZE, Samples::furnished, x -> x.sheet(0, INTS, -1), x -> x.sheet(0, LONGS, -1), x -> x.sheet(1, INTS, LEAST_INT),
            x -> x.sheet(3, LONGS, LEAST_INT), x -> x.sheet(3, INTS, -13));
        Due.is("0", furnished().sheet(3, INTS, 0), 1);
    }

    private static void badCell() {
        Refused.ints(BAD, Samples::furnished, x -> x.cell(4, 0, 0), x -> x.cell(-1, 0, 0), x -> x.cell(LEAST_INT, 0, 0), x -> x.cell(MOST_INT, 0, 0));
        Due.is("the first sheet", furnished().cell(0, 0, 0), 1);
    }

    private static void cellOfNothing() {
        Refused.ints(NOTHING, Samples::furnished, x -> x.cell(3, 0, 0), x -> x.cell(3, -1, 0), x -> x.cell(3, 12, 1L << 40));
        Refused.ints(NOTHING, LeastInBounds::new, x -> x.cell(0, 0, 0), x -> x.cell(1, 0, 0), x -> x.cell(2, 0, 0), x -> x.cell(3, 0, 0));
    }

    private static void noPlaceForACell() {
        Refused.ints(PLACE, Samples::furnished, x -> x.cell(0, 5, 0), x -> x.cell(0, -1, 0), x -> x.cell(1, 12, 0), x -> x.cell(1, -1, 0),
            x -> x.cell(2, 0, 0), x -> x.cell(0, LEAST_INT, 0), x -> x.cell(0, MOST_INT, 0), x -> x.cell(0, 6, 0), x -> x.cell(0, 11, 0));
        LeastInBounds x = furnished();
        Due.is("the last of five", x.cell(0, 4, 7), 1);
        Due.is("the last of twelve", x.cell(1, 11, 8), 1);
        Due.is("the first of twelve", x.cell(1, 0, 9), 1);
        sheetIs("five", x, 0, 10, 11, 12, 13, 7);
        sheetIs("twelve", x, 1, 9, 0, 1L << 41, 0, 1L << 42, 0, 1L << 43, 0, 1L << 44, 0, 0, 8);
    }

    private static void noInt() {
        Refused.ints(MUCH, Samples::furnished, x -> x.cell(0, 0, 1L << 31), x -> x.cell(0, 0, -(1L << 31) - 1), x -> x.cell(0, 4, Long.MAX_VALUE),
            x -> x.cell(0, 4, Long.MIN_VALUE), x -> x.cell(0, 0, 1L << 32));
        LeastInBounds x = furnished();
        long[] ends = {MOST_INT, LEAST_INT, 0, -1, 1};
        for (int i = 0; i < 5; i++) {
            Due.is("an int", x.cell(0, i, ends[i]), 1);
        }
        sheetIs("ints", x, 0, ends);
        long[] longs = {Long.MAX_VALUE, Long.MIN_VALUE, 1L << 31, -(1L << 31) - 1};
        x.sheet(1, LONGS, 4);
        for (int i = 0; i < 4; i++) {
            Due.is("a long in a row of longs", x.cell(1, i, longs[i]), 1);
        }
        sheetIs("longs", x, 1, longs);
    }

    private static void badRead() {
        Refused.longs(BAD, Samples::furnished, x -> x.read(4, 0), x -> x.read(-1, 0), x -> x.read(LEAST_INT, 0), x -> x.read(MOST_INT, 0));
        Due.is("the first sheet", furnished().read(0, 0), 10);
    }

    private static void nothingToRead() {
        Refused.longs(NOTHING, Samples::furnished, x -> x.read(3, 0), x -> x.read(3, -1), x -> x.read(3, 12));
        Refused.longs(NOTHING, LeastInBounds::new, x -> x.read(0, 0), x -> x.read(1, 0), x -> x.read(2, 0), x -> x.read(3, 0));
    }

    private static void noPlaceToRead() {
        Refused.longs(PLACE, Samples::furnished, x -> x.read(0, 5), x -> x.read(0, -1), x -> x.read(1, 12), x -> x.read(1, -1), x -> x.read(2, 0),
            x -> x.read(0, LEAST_INT), x -> x.read(0, MOST_INT), x -> x.read(0, 11));
        Due.is("the last of five", furnished().read(0, 4), 14);
        Due.is("the last of twelve", furnished().read(1, 11), 0);
        Due.is("the first of twelve", furnished().read(1, 0), 1L << 40);
    }

    private static LeastInBounds twelve() {
        LeastInBounds x = furnished();
        fill(x, 1, 1, 2, 3, 4, 5, 6, 7, 8, 9, 10, 11, 12);
        return x;
    }

    private static void copyToEnds() {
        LeastInBounds x = twelve();
        x.sheet(3, LONGS, 12);
        Due.is("all", x.copy(1, 0, 3, 0, 12), 12);
        sheetIs("all", x, 3, 1, 2, 3, 4, 5, 6, 7, 8, 9, 10, 11, 12);
        Due.is("the last to the first", x.copy(1, 11, 3, 0, 1), 1);
        Due.is("the first to the last", x.copy(1, 0, 3, 11, 1), 1);
        sheetIs("both", x, 3, 12, 2, 3, 4, 5, 6, 7, 8, 9, 10, 11, 1);
        Due.is("the same, upwards", x.copy(1, 0, 1, 1, 11), 11);
        sheetIs("as they were", x, 1, 1, 1, 2, 3, 4, 5, 6, 7, 8, 9, 10, 11);
        Due.is("the same, downwards", x.copy(1, 1, 1, 0, 11), 11);
        sheetIs("as they were", x, 1, 1, 2, 3, 4, 5, 6, 7, 8, 9, 10, 11, 11);
        Due.is("onto itself", x.copy(1, 0, 1, 0, 12), 12);
        sheetIs("as they were", x, 1, 1, 2, 3, 4, 5, 6, 7, 8, 9, 10, 11, 11);
        Due.each("none", 0, x.copy(1, 0, 3, 0, 0), x.copy(1, 12, 3, 12, 0), x.copy(2, 0, 1, 5, 0), x.copy(1, 5, 2, 0, 0), x.copy(2, 0, 2, 0, 0));
        sheetIs("none changes nothing", x, 3, 12, 2, 3, 4, 5, 6, 7, 8, 9, 10, 11, 1);
        sheetIs("none changes nothing", x, 2);
    }

    private static void badCopy() {
        Refused.ints(BAD, Samples::furnished, x -> x.copy(4, 0, 0, 0, 1), x -> x.copy(0, 0, 4, 0, 1), x -> x.copy(-1, 0, 0, 0, 1),
            x -> x.copy(0, 0, -1, 0, 1), x -> x.copy(LEAST_INT, 0, 0, 0, 1), x -> x.copy(0, 0, MOST_INT, 0, 1), x -> x.copy(4, 0, 3, 0, 0),
            x -> x.copy(3, 0, 4, 0, 0), x -> x.copy(MOST_INT, 0, LEAST_INT, 0, 0));
        Due.is("the first to itself", furnished().copy(0, 0, 0, 0, 1), 1);
    }

    private static void copyOfNothing() {
        Refused.ints(NOTHING, Samples::furnished, x -> x.copy(3, 0, 0, 0, 1), x -> x.copy(0, 0, 3, 0, 1), x -> x.copy(3, 0, 3, 0, 0),
            x -> x.copy(1, 0, 3, 0, 0), x -> x.copy(3, 0, 1, 0, 0), x -> x.copy(3, 0, 1, 0, -1));
    }

    private static void copyOfUnlike() {
        Refused.ints(KIND, Samples::furnished, x -> x.copy(0, 0, 1, 0, 1), x -> x.copy(1, 0, 0, 0, 1), x -> x.copy(0, 0, 1, 0, 0),
            x -> x.copy(0, 0, 2, 0, 0), x -> x.copy(2, 0, 0, 0, 0), x -> x.copy(0, 0, 1, 0, -1));
        LeastInBounds x = furnished();
        x.sheet(3, INTS, 1);
        Due.is("ints to ints", x.copy(0, 4, 3, 0, 1), 1);
        Due.is("as it was", x.read(3, 0), 14);
        Due.is("longs to longs", x.copy(1, 0, 1, 11, 1), 1);
        Due.is("as it was", x.read(1, 11), 1L << 40);
    }

    private static void noPlaceToCopy() {
        Refused.ints(PLACE, BoundsOfSheets::twelve, x -> x.copy(1, 0, 1, 0, -1), x -> x.copy(1, 0, 1, 0, LEAST_INT), x -> x.copy(1, 0, 1, 0, 13),
            x -> x.copy(1, 0, 1, 0, MOST_INT), x -> x.copy(1, 1, 1, 0, 12), x -> x.copy(1, 0, 1, 1, 12), x -> x.copy(1, 12, 1, 0, 1),
            x -> x.copy(1, 0, 1, 12, 1), x -> x.copy(1, -1, 1, 0, 1), x -> x.copy(1, 0, 1, -1, 1), x -> x.copy(1, -1, 1, 0, 0),
            x -> x.copy(1, 0, 1, -1, 0), x -> x.copy(1, 13, 1, 0, 0), x -> x.copy(1, 0, 1, 13, 0), x -> x.copy(1, 0, 2, 0, 1), x -> x.copy(2, 0, 1, 0, 1));
        Refused.ints(PLACE, BoundsOfSheets::twelve, x -> x.copy(1, MOST_INT, 1, 0, 1), x -> x.copy(1, 0, 1, MOST_INT, 1),
            x -> x.copy(1, MOST_INT, 1, MOST_INT, MOST_INT), x -> x.copy(1, LEAST_INT, 1, 0, 1), x -> x.copy(1, 0, 1, LEAST_INT, 1),
            x -> x.copy(1, LEAST_INT, 1, LEAST_INT, LEAST_INT), x -> x.copy(1, 1, 1, 1, MOST_INT), x -> x.copy(1, 12, 1, 12, -1),
            x -> x.copy(0, 0, 0, 0, 6), x -> x.copy(0, 5, 0, 0, 1), x -> x.copy(0, 0, 0, 5, 1), x -> x.copy(0, 4, 0, 0, 2));
        Due.is("the last place", twelve().copy(1, 0, 1, 11, 1), 1);
    }

    private static void imageOfNoneToSix() {
        for (int lines = 0; lines <= 6; lines++) {
            LeastInBounds x = furnishedOfSize(3);
            for (int l = 0; l < lines; l++) {
                addLine(x, l % 5, l, l, l, l, l);
            }
            Due.is("how many", x.image(), lines);
            x.size(1);
            Due.is("as many come back", x.back(), lines);
            Due.is("they are there", x.count(1), lines);
        }
        LeastInBounds x = full();
        x.image();
        x.drop(0);
        Due.is("the last image is kept", x.image(), 5);
        x.size(2);
        Due.is("not the one before", x.back(), 5);
    }

    private static void backToAll() {
        LeastInBounds x = full();
        x.image();
        String due = Shown.of(x);
        LeastInBounds y = full();
        y.image();
        for (int n = 1; n <= 3; n++) {
            y.size(n);
            y.bend(n - 1, n - 1, 20);
            y.push(n - 1, 99);
            y.tide(1);
            addLine(y, ON, 99, 9, 9, 9, 9);
            Due.is("how many", y.back(), 6);
        }
        for (int l = 0; l < 6; l++) {
            y.change(l, 0, UNDER);
            y.change(l, 1, 0);
            y.change(l, 2, 0);
            y.slope(l, 2, 0);
        }
        Due.is("how many", y.back(), 6);
        Due.isTrue("all is as in the image, and the image too", Shown.of(y).equals(due));
    }

    private static void noImage() {
        Refused.ints(STATE, LeastInBounds::new, x -> x.back());
        Refused.ints(STATE, Samples::two, x -> x.back());
        LeastInBounds x = new LeastInBounds();
        x.size(3);
        Due.is("a new size makes none", x.back(), STATE);
        x.image();
        Due.is("of no lines is one", x.back(), 0);
        Due.is("it isn't used up", x.back(), 0);
    }

    private static void countAtEnds() {
        LeastInBounds x = new LeastInBounds();
        x.size(1);
        Due.is("the fewest VARIABLES", x.count(0), 1);
        Due.is("no LINES", x.count(1), 0);
        Due.is("T 0", x.count(2), 0);
        Due.is("none ON", x.count(3), 0);
        x.size(3);
        x.tide(40);
        for (int l = 0; l < 6; l++) {
            x.line(ON, 0, 0);
        }
        x.line(ON, 0, 0);
        Due.is("the most VARIABLES", x.count(0), 3);
        Due.is("the most LINES", x.count(1), 6);
        Due.is("T 40", x.count(2), 40);
        Due.is("all ON", x.count(3), 6);
        for (int kind = 0; kind < 5; kind++) {
            x.change(5, 0, kind);
            Due.is("one of KIND " + kind, x.count(3), kind == ON ? 6 : 5);
        }
        x.change(5, 0, ON);
        x.drop(0);
        Due.is("one less", x.count(3), 5);
    }

    private static void badCount() {
        Refused.ints(BAD, Samples::full, x -> x.count(4), x -> x.count(-1), x -> x.count(LEAST_INT), x -> x.count(MOST_INT));
    }
}
