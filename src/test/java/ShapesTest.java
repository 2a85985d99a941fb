/**
 * The sentences of the document's Terms on registers, objects and arrays, and of promises 1 to 3 on what is new, each
 * at its edges.
 */
public final class ShapesTest {
    private static final int LEAST = Integer.MIN_VALUE;
    private static final int MOST = Integer.MAX_VALUE;
    private static final long NO_INT = Long.MIN_VALUE;
    private static final int[] LENGTHS = {0, 1, 14, 15, 16, 17, 224, 225, 226, 227, 3374, 3375};

    private ShapesTest() {
    }

    public static void main(String[] args) {
        none();
        sizeIsAtLeast1024AndAtMost60000();
        paceIsAtLeast1AndAtMost64();
        paceCountsForDone();
        registersOfANewHeap();
        registersAreEight();
        fieldsAreNumberedFromZero();
        cellsAreOneAndOneForEachField();
        makeLeastAndMost();
        makeIsNew();
        makeIsNewInUsedCells();
        nodesAreNewInUsedCells();
        makeReplaces();
        objectsHaveNoItemsAndArraysNoFields();
        arrayLengths();
        arrayIsANodeOf16Cells();
        arrayIsNew();
        childrenAbove15And225();
        childIsANodeOf16Cells();
        lastChildrenHave15Items();
        childrenOfChildrenHave225Items();
        childIsNothingUntilAnItemIsPut();
        itemsOfNothing();
        everyItemHasItsOwnPlace();
        Check.end();
    }

    private static CountedHeap heap() {
        return new CountedHeap(1024, 1);
    }

    /** The public face: "public static final int NONE = -1". */
    private static void none() {
        Check.due("NONE", StepHeap.NONE, -1);
    }

    private static void limitIs(int h, int k, int limit) {
        CountedHeap x = new CountedHeap(h, k);
        Check.due("p1 told(4) of new StepHeap(" + h + ", " + k + ")", x.told(4), limit);
    }

    /** Promise 1: "H, but at least 1,024 and at most 60,000". With k = 64, LIMIT tells each H from the next. */
    private static void sizeIsAtLeast1024AndAtMost60000() {
        for (int h : new int[] {LEAST, LEAST + 1, -60000, -1, 0, 1, 1022, 1023, 1024}) {
            limitIs(h, 64, 1008);
            limitIs(h, 1, 512);
        }
        limitIs(1025, 64, 1009);
        limitIs(59999, 64, 59075);
        for (int h : new int[] {60000, 60001, 60002, 120000, MOST - 1, MOST}) {
            limitIs(h, 64, 59076);
            limitIs(h, 1, 30000);
        }
    }

    /** Promise 1: "k, but at least 1 and at most 64." */
    private static void paceIsAtLeast1AndAtMost64() {
        for (int k : new int[] {LEAST, -64, -2, -1, 0, 1}) {
            limitIs(60000, k, 30000);
            limitIs(1024, k, 512);
        }
        limitIs(60000, 2, 40000);
        limitIs(60000, 63, 59062);
        for (int k : new int[] {64, 65, 66, 1000, MOST - 1, MOST}) {
            limitIs(60000, k, 59076);
            limitIs(1024, k, 1008);
        }
    }

    /** Promise 1, the same sentence, as "k * made >= R" tells it. */
    private static void paceCountsForDone() {
        int[][] rows = {{LEAST, 1}, {0, 1}, {1, 1}, {2, 2}, {63, 63}, {64, 64}, {65, 64}, {MOST, 64}};
        for (int[] row : rows) {
            for (int more = 0; more <= 1; more++) {
                CountedHeap x = new CountedHeap(1024, row[0]);
                Fill.keep(x, row[1] + more);
                Fill.firstCycle(x);
                x.make(7, 0, 0);
                int done = 1 - more;
                Check.told("p1 k " + row[0] + ", R " + (row[1] + more), x, 1, done, more == 0 ? row[1] : -1, 1);
            }
        }
    }

    /** Promise 1: "All registers are nothing." */
    private static void registersOfANewHeap() {
        for (int h : new int[] {LEAST, 1024, MOST}) {
            for (int k : new int[] {LEAST, 1, MOST}) {
                CountedHeap x = new CountedHeap(h, k);
                for (int reg = 0; reg < 8; reg++) {
                    Check.isNothing("p1", x, reg);
                    Check.due("p1 same(reg, 0)", x.same(reg, 0), true);
                    Check.due("p1 drop(reg)", x.drop(reg), false);
                }
                Check.told("p1", x, 0, 1, 0, 0);
                Check.due("p1 steady()", x.steady(), true);
            }
        }
    }

    /** Terms: "REGISTERS 0 .. 7": the first and the last are taken by each call, as all between them. */
    private static void registersAreEight() {
        for (int reg = 0; reg < 8; reg++) {
            int other = 7 - reg;
            CountedHeap x = heap();
            Check.due("Terms, make(" + reg + ", ..)", x.make(reg, 1, 1), 1);
            Check.due("Terms, set(" + reg + ", ..)", x.set(reg, 0, 50 + reg), true);
            Check.due("Terms, look(" + reg + ", ..)", x.look(reg, 0), 50 + reg);
            Check.due("Terms, put(" + reg + ", ..)", x.put(reg, 0, reg), true);
            Check.due("Terms, get(.., " + reg + ", ..)", x.get(other, reg, 0), true);
            Check.due("Terms, get(" + reg + ", ..)", x.get(reg, other, 0), true);
            Check.due("Terms, same(" + reg + ", ..)", x.same(reg, other), true);
            Check.due("Terms, size(" + reg + ", 3)", x.size(reg, 3), 3);
            Check.due("Terms, array(" + other + ", ..)", x.array(other, 2, true), 1);
            Check.due("Terms, putItem(" + other + ", ..)", x.putItem(other, 1, reg), 1);
            Check.due("Terms, drop(" + reg + ")", x.drop(reg), true);
            Check.due("Terms, getItem(" + reg + ", ..)", x.getItem(reg, other, 1), true);
            Check.due("Terms, copy(" + other + ", " + reg + ")", x.copy(other, reg), true);
            Check.due("Terms, look(" + other + ", ..)", x.look(other, 0), 50 + reg);
            Check.due("Terms, array(" + reg + ", ..)", x.array(reg, 2, false), 1);
            Check.due("Terms, setItem(" + reg + ", ..)", x.setItem(reg, 1, 6), 1);
            Check.due("Terms, lookItem(" + reg + ", ..)", x.lookItem(reg, 1), 6);
            for (int rest = 0; rest < 8; rest++) {
                if (rest != reg && rest != other) {
                    Check.isNothing("Terms, registers", x, rest);
                }
            }
        }
    }

    /** Terms: "fields are numbered from 0, references and ints each for themselves." */
    private static void fieldsAreNumberedFromZero() {
        for (int refs = 0; refs <= 15; refs++) {
            int ints = 15 - refs;
            CountedHeap x = heap();
            x.make(0, refs, ints);
            x.make(1, 0, 0);
            for (int field = -1; field <= 16; field++) {
                Check.due("Terms, put(0, " + field + ", 1)", x.put(0, field, 1), field >= 0 && field < refs);
                Check.due("Terms, set(0, " + field + ", ..)", x.set(0, field, 9 + field), field >= 0 && field < ints);
            }
            for (int field = -1; field <= 16; field++) {
                boolean isReference = field >= 0 && field < refs;
                boolean isInt = field >= 0 && field < ints;
                Check.due("Terms, get(2, 0, " + field + ")", x.get(2, 0, field), isReference);
                Check.due("Terms, it is what was put", x.same(2, 1), isReference);
                x.drop(2);
                Check.due("Terms, look(0, " + field + ")", x.look(0, field), isInt ? 9 + field : NO_INT);
            }
        }
    }

    /** Terms: "Its CELLS are 1 and one for each field, at most 16." */
    private static void cellsAreOneAndOneForEachField() {
        for (int refs = 0; refs <= 15; refs++) {
            CountedHeap x = heap();
            int made = 0;
            for (int ints = 0; refs + ints <= 15; ints++) {
                x.make(0, refs, ints);
                made += 1 + refs + ints;
                Check.due("Terms, cells, size(0, 3)", x.size(0, 3), 1 + refs + ints);
                Check.due("Terms, cells, told(3)", x.told(3), made);
            }
        }
    }

    /** Promise 2: "or it would have more than 16 cells": one cell, and 16 of them, are made. */
    private static void makeLeastAndMost() {
        int[][] rows = {{0, 0}, {15, 0}, {0, 15}, {14, 1}, {1, 14}, {7, 8}, {8, 7}};
        for (int[] row : rows) {
            CountedHeap x = heap();
            Check.due("p2 make(0, " + row[0] + ", " + row[1] + ")", x.make(0, row[0], row[1]), 1);
            Check.due("p2 size(0, 0)", x.size(0, 0), row[0]);
            Check.due("p2 size(0, 1)", x.size(0, 1), row[1]);
            Check.due("p2 size(0, 2)", x.size(0, 2), -1);
        }
    }

    private static void allFieldsAreNew(String what, CountedHeap x, int reg, int refs, int ints) {
        for (int field = 0; field < refs; field++) {
            x.copy(6, reg);
            Check.due(what + ", get(6, " + reg + ", " + field + ")", x.get(6, reg, field), true);
            Check.isNothing(what + ", reference " + field, x, 6);
        }
        for (int field = 0; field < ints; field++) {
            Check.due(what + ", look(" + reg + ", " + field + ")", x.look(reg, field), 0);
        }
    }

    /** Promise 2: "A register is a new object, all of whose references are nothing, and ints 0". */
    private static void makeIsNew() {
        for (int refs = 0; refs <= 15; refs++) {
            CountedHeap x = heap();
            x.make(0, refs, 15 - refs);
            allFieldsAreNew("p2", x, 0, refs, 15 - refs);
        }
    }

    /** Promise 2, the same sentence, in cells that others had before: the third cycle has the first one's half. */
    private static void makeIsNewInUsedCells() {
        for (int field = 0; field < 15; field++) {
            CountedHeap x = heap();
            for (int i = 0; i < 32; i++) {
                x.make(0, 15 * (i % 2), 15 - 15 * (i % 2));
                x.put(0, field, 0);
                x.set(0, field, -1 - i);
            }
            x.drop(0);
            Fill.waste(x, 512);
            Check.told("p2 the second cycle is full", x, 1, 1, 0, 512);
            for (int i = 0; i < 64; i++) {
                x.make(0, i % 16, 15 - i % 16);
                if (field < i % 16) {
                    x.get(6, 0, field);
                    Check.isNothing("p2 a reference in used cells", x, 6);
                } else {
                    Check.due("p2 an int in used cells", x.look(0, field - i % 16), 0);
                }
            }
        }
    }

    /** Terms: "items of what is nothing are nothing, or 0", for nodes in cells that others had before. */
    private static void nodesAreNewInUsedCells() {
        for (int i = 0; i < 15; i++) {
            CountedHeap x = heap();
            for (int times = 0; times < 32; times++) {
                x.make(0, 0, 15);
                x.set(0, i, 1 + times * 16);
            }
            x.drop(0);
            Fill.waste(x, 512);
            for (int times = 0; times < 15; times++) {
                x.array(0, 225, true);
                x.array(1, 225, false);
                Check.due("p3 no child in used cells", x.putItem(0, i * 15, 0), 2);
                Check.due("p3 no child in used cells", x.setItem(1, i * 15, 1), 2);
                x.getItem(2, 0, i * 15 + i);
                Check.isNothing("p3 an item in used cells", x, 2);
                Check.due("p3 an item in used cells", x.lookItem(1, i * 15 + i), 0);
            }
        }
    }

    /** Promise 2: "A register is a new object": another than it was, which stays where else it is. */
    private static void makeReplaces() {
        CountedHeap x = heap();
        x.make(0, 1, 1);
        x.set(0, 0, 5);
        x.copy(1, 0);
        x.make(0, 1, 1);
        Check.due("p2 another object", x.same(0, 1), false);
        Check.due("p2 the new one", x.look(0, 0), 0);
        Check.due("p2 the one before", x.look(1, 0), 5);
    }

    /** Terms: "An object has fields and no items, an array items and no fields": of whatever kind and length. */
    private static void objectsHaveNoItemsAndArraysNoFields() {
        for (int refs : new int[] {0, 7, 15}) {
            CountedHeap x = heap();
            x.make(0, refs, 15 - refs);
            Check.due("Terms, items of an object, size(0, 2)", x.size(0, 2), -1);
            Check.due("Terms, items of an object, getItem", x.getItem(1, 0, 0), false);
            Check.due("Terms, items of an object, putItem", x.putItem(0, 0, 0), -1);
            Check.due("Terms, items of an object, lookItem", x.lookItem(0, 0), NO_INT);
            Check.due("Terms, items of an object, setItem", x.setItem(0, 0, 1), -1);
        }
        for (int length : LENGTHS) {
            for (int kind = 0; kind < 2; kind++) {
                CountedHeap x = heap();
                x.array(0, length, kind == 0);
                Check.due("Terms, fields of an array, size(0, 0)", x.size(0, 0), -1);
                Check.due("Terms, fields of an array, size(0, 1)", x.size(0, 1), -1);
                Check.due("Terms, fields of an array, get", x.get(1, 0, 0), false);
                Check.due("Terms, fields of an array, put", x.put(0, 0, 0), false);
                Check.due("Terms, fields of an array, look", x.look(0, 0), NO_INT);
                Check.due("Terms, fields of an array, set", x.set(0, 0, 1), false);
            }
        }
    }

    /** Terms: "AN ARRAY of a length (0 .. 3,375) has items that are all references, or all ints." */
    private static void arrayLengths() {
        for (int length : LENGTHS) {
            for (int kind = 0; kind < 2; kind++) {
                boolean refs = kind == 0;
                CountedHeap x = heap();
                Check.due("p3 array(0, " + length + ", " + refs + ")", x.array(0, length, refs), 1);
                Check.due("p3 size(0, 2)", x.size(0, 2), length);
                for (int i : new int[] {-1, 0, length - 1, length}) {
                    boolean isItem = i >= 0 && i < length;
                    String of = " of " + length;
                    Check.due("p3 lookItem(0, " + i + ")" + of, x.lookItem(0, i), isItem && !refs ? 0 : NO_INT);
                    Check.due("p3 getItem(1, 0, " + i + ")" + of, x.getItem(1, 0, i), isItem && refs);
                }
            }
        }
    }

    /** Terms: "It is a NODE of 16 cells": of whatever length, of no items too. */
    private static void arrayIsANodeOf16Cells() {
        for (int length : LENGTHS) {
            CountedHeap x = heap();
            x.array(0, length, true);
            Check.due("Terms, a node, told(3)", x.told(3), 16);
            Check.due("Terms, a node, size(0, 3)", x.size(0, 3), 16);
            x.array(0, length, false);
            Check.due("Terms, a node, told(3)", x.told(3), 32);
            Check.due("Terms, a node, size(0, 3)", x.size(0, 3), 16);
        }
    }

    /** Promise 3: "A register is a new array without children (a node)": another than it was, with no items put. */
    private static void arrayIsNew() {
        CountedHeap x = heap();
        x.array(0, 15, true);
        x.putItem(0, 0, 0);
        x.copy(1, 0);
        x.array(0, 15, true);
        Check.due("p3 another array", x.same(0, 1), false);
        for (int i = 0; i < 15; i++) {
            x.getItem(2, 0, i);
            Check.isNothing("p3 item " + i, x, 2);
        }
        x.getItem(2, 1, 0);
        Check.due("p3 the one before", x.same(2, 1), true);
        x.array(0, 15, false);
        for (int i = 0; i < 15; i++) {
            Check.due("p3 item " + i, x.lookItem(0, i), 0);
        }
    }

    /** Terms: "one of more than 15 items has 15 children, and one of more than 225 has children with children". */
    private static void childrenAbove15And225() {
        for (int length : LENGTHS) {
            int children = length > 225 ? 2 : length > 15 ? 1 : 0;
            for (int i : new int[] {0, length / 2, length - 1}) {
                if (i >= length || i < 0) {
                    continue;
                }
                CountedHeap x = heap();
                x.array(0, length, true);
                x.array(1, length, false);
                String what = "Terms, item " + i + " of " + length;
                for (int child = 0; child < children; child++) {
                    Check.due(what + ", putItem", x.putItem(0, i, 0), 2);
                    Check.due(what + ", setItem", x.setItem(1, i, 1), 2);
                }
                Check.due(what + ", putItem", x.putItem(0, i, 0), 1);
                Check.due(what + ", setItem", x.setItem(1, i, 1), 1);
            }
        }
    }

    /** Terms: "a child is a node of 16 cells": each one, and nothing more when it stands. */
    private static void childIsANodeOf16Cells() {
        CountedHeap x = heap();
        x.array(0, 3375, true);
        x.array(1, 226, false);
        int made = 32;
        for (int times = 0; times < 4; times++) {
            x.putItem(0, 3374, 0);
            made += times < 2 ? 16 : 0;
            Check.due("Terms, a child of references, told(3)", x.told(3), made);
            x.setItem(1, 0, 1);
            made += times < 2 ? 16 : 0;
            Check.due("Terms, a child of ints, told(3)", x.told(3), made);
        }
        Check.due("Terms, the first node's cells, size(0, 3)", x.size(0, 3), 16);
    }

    /** Terms: "the last ones with 15 items": those of one child need it once, the next item another. */
    private static void lastChildrenHave15Items() {
        for (int length : new int[] {16, 225, 226, 3375}) {
            for (int first = 0; first < length; first += length < 300 ? 15 : 720) {
                CountedHeap x = heap();
                x.array(0, length, true);
                for (int times = 0; times < 2 && x.putItem(0, first, 0) == 2; times++) {
                    Check.due("Terms, a child is made", x.told(3) > 16, true);
                }
                for (int i = Math.max(0, first - 1); i <= first + 15 && i < length; i++) {
                    boolean isInside = i >= first && i < first + 15;
                    String what = "Terms, putItem(0, " + i + ", 0) of " + length + " behind " + first;
                    Check.due(what, x.putItem(0, i, 0), isInside ? 1 : 2);
                }
            }
        }
    }

    /** Terms: "has children with children": the last ones of 15 in a row hang on one child, the next on another. */
    private static void childrenOfChildrenHave225Items() {
        for (int first : new int[] {0, 225, 1800, 3150}) {
            CountedHeap x = heap();
            x.array(0, 3375, false);
            x.setItem(0, first, 1);
            for (int i = first; i < first + 225; i += 15) {
                Check.due("Terms, the last child of item " + i, x.setItem(0, i + 14, i), 2);
                Check.due("Terms, it stands for item " + i, x.setItem(0, i, i), 1);
            }
            for (int i : new int[] {first - 1, first + 225}) {
                if (i >= 0 && i < 3375) {
                    Check.due("Terms, two children of item " + i, x.setItem(0, i, i), 2);
                    Check.due("Terms, two children of item " + i, x.setItem(0, i, i), 2);
                    Check.due("Terms, two children of item " + i, x.setItem(0, i, i), 1);
                }
            }
        }
    }

    /** Terms: "or nothing as long as none of its items was put": to get or look at an item makes no child. */
    private static void childIsNothingUntilAnItemIsPut() {
        for (int length : new int[] {16, 225, 226, 3375}) {
            CountedHeap x = heap();
            x.array(0, length, true);
            x.array(1, length, false);
            for (int i = 0; i < length; i += length / 16) {
                x.getItem(2, 0, i);
                x.lookItem(1, i);
            }
            x.putItem(0, length, 0);
            x.setItem(1, -1, 5);
            Check.due("Terms, no child was made, told(3)", x.told(3), 32);
            Check.due("Terms, the child is nothing yet", x.putItem(0, length - 1, 0), 2);
            Check.due("Terms, the child is nothing yet", x.setItem(1, length - 1, 0), 2);
            Check.due("Terms, children were made, told(3)", x.told(3), 64);
        }
    }

    /** Terms: "items of what is nothing are nothing, or 0": beside a child that stands too, or half the way to it. */
    private static void itemsOfNothing() {
        CountedHeap x = new CountedHeap(60000, 1);
        x.array(0, 3375, true);
        x.array(1, 3375, false);
        for (int times = 0; times < 4; times++) {
            for (int i : new int[] {0, 14, 15, 224, 225, 1799, 1801, 1814, 1815, 2024, 2025, 3374}) {
                x.copy(2, 0);
                Check.due("Terms, getItem(2, 0, " + i + ")", x.getItem(2, 0, i), true);
                Check.isNothing("Terms, item " + i, x, 2);
                Check.due("Terms, lookItem(1, " + i + ")", x.lookItem(1, i), 0);
            }
            x.putItem(0, 1800, 0);
            x.setItem(1, 1800, -5);
        }
        Check.due("Terms, the item itself", x.lookItem(1, 1800), -5);
    }

    /** Terms: "AN ARRAY of a length [..] has items": each is another, wherever its node is. */
    private static void everyItemHasItsOwnPlace() {
        for (int start = 0; start < 3375; start += 75) {
            CountedHeap x = new CountedHeap(60000, 1);
            x.array(0, 3375, false);
            for (int i = start; i < start + 75; i++) {
                for (int times = 0; times < 2 && x.setItem(0, i, -i) == 2; times++) {
                    Check.due("Terms, a child is made", x.told(0), 0);
                }
                x.setItem(0, i, 7 * i + 1);
            }
            for (int i = start; i < start + 75; i++) {
                Check.due("Terms, lookItem(0, " + i + ")", x.lookItem(0, i), 7 * i + 1);
            }
            Check.due("Terms, the item before", x.lookItem(0, start - 1), start == 0 ? NO_INT : 0);
            Check.due("Terms, the item behind", x.lookItem(0, start + 75), start == 3300 ? NO_INT : 0);
        }
    }
}
