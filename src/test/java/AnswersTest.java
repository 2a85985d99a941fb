/**
 * The sentences of promises 4 to 16 on what a call does when it is not refused, each at its edges: the first and the
 * last, nothing, the same register twice, the least and the most int. RefusedCallsTest has what is refused.
 */
public final class AnswersTest {
    private static final int[] VALUES = {Integer.MIN_VALUE, Integer.MIN_VALUE + 1, -1, 0, 1, 2, Integer.MAX_VALUE};
    private static final int[] LENGTHS = {1, 15, 16, 225, 226, 3375};

    private AnswersTest() {
    }

    public static void main(String[] args) {
        getFirstAndLast();
        getOfNothingThere();
        getIntoItsOwnRegister();
        putFirstAndLast();
        putOfNothing();
        putOfItself();
        putOfAnArray();
        lookAtValues();
        lookAtANewInt();
        setFirstAndLast();
        fieldsWhileTheyAreMoved();
        getItemFirstAndLast();
        getItemOfNothingThere();
        getItemIntoItsOwnRegister();
        putItemFirstAndLast();
        putItemMakesTheFirstChildAlone();
        putItemOfNothing();
        putItemOfItself();
        putItemWithNoRoom();
        lookItemAtValues();
        setItemFirstAndLast();
        setItemMakesTheFirstChildAlone();
        setItemOfZero();
        setItemWithNoRoom();
        itemsWhileTheyAreMoved();
        copyToItself();
        copyOfNothing();
        copyIsTheSameObject();
        dropTwice();
        dropLeavesOthers();
        sameOfOneAndOfTwo();
        sameOfNothing();
        sameWhileMoved();
        sizeOfObjects();
        sizeOfArrays();
        toldOfBegun();
        toldOfDoneAndReached();
        toldOfMadeAndLimit();
        the512thCall();
        Check.end();
    }

    private static CountedHeap heap() {
        return new CountedHeap(1024, 1);
    }

    /** Promise 4: "A register becomes what reference field of the object of another one is: true." */
    private static void getFirstAndLast() {
        for (int refs : new int[] {1, 2, 15}) {
            CountedHeap x = heap();
            x.make(0, refs, 15 - refs);
            for (int field = 0; field < refs; field++) {
                x.make(1, 0, field);
                x.put(0, field, 1);
            }
            for (int field = 0; field < refs; field++) {
                Check.due("p4 get(2, 0, " + field + ")", x.get(2, 0, field), true);
                Check.due("p4 it is that object", x.size(2, 1), field);
            }
        }
    }

    /** Promise 4, the same sentence, where the reference is nothing: the register becomes nothing. */
    private static void getOfNothingThere() {
        CountedHeap x = heap();
        x.make(0, 2, 0);
        x.make(1, 0, 1);
        x.put(0, 0, 1);
        Check.due("p4 get(1, 0, 1)", x.get(1, 0, 1), true);
        Check.isNothing("p4 it was nothing there", x, 1);
        Check.due("p4 get(1, 0, 1) again", x.get(1, 0, 1), true);
        Check.due("p4 the reference beside it", x.get(1, 0, 0), true);
        Check.due("p4 it stays", x.size(1, 1), 1);
    }

    /** Promise 4, the same sentence, where the two registers are one. */
    private static void getIntoItsOwnRegister() {
        CountedHeap x = heap();
        x.make(0, 2, 0);
        x.make(1, 0, 3);
        x.put(0, 1, 1);
        x.copy(2, 0);
        Check.due("p4 get(0, 0, 1)", x.get(0, 0, 1), true);
        Check.due("p4 it is what the reference was", x.same(0, 1), true);
        Check.due("p4 get(2, 2, 0)", x.get(2, 2, 0), true);
        Check.isNothing("p4 it is what the reference was", x, 2);
    }

    /** Promise 5: "A reference field of an object becomes what a register is: true." Only that one does. */
    private static void putFirstAndLast() {
        for (int field = 0; field < 15; field++) {
            CountedHeap x = heap();
            x.make(0, 15, 0);
            x.make(1, 0, 0);
            Check.due("p5 put(0, " + field + ", 1)", x.put(0, field, 1), true);
            for (int other = 0; other < 15; other++) {
                x.get(2, 0, other);
                Check.due("p5 reference " + other + " is it", x.same(2, 1), other == field);
            }
            Check.due("p5 the register stays", x.size(1, 3), 1);
        }
    }

    /** Promise 5, the same sentence, where the register is nothing: so is the reference then. */
    private static void putOfNothing() {
        CountedHeap x = heap();
        x.make(0, 1, 1);
        Check.due("p5 put(0, 0, 7), which was nothing", x.put(0, 0, 7), true);
        x.put(0, 0, 0);
        Check.due("p5 put(0, 0, 7), which was an object", x.put(0, 0, 7), true);
        Check.due("p5 get(1, 0, 0)", x.get(1, 0, 0), true);
        Check.isNothing("p5 the reference is nothing", x, 1);
        Check.due("p5 the int beside it stays", x.look(0, 0), 0);
    }

    /** Promise 5, the same sentence, where the two registers are one. */
    private static void putOfItself() {
        CountedHeap x = heap();
        x.make(0, 2, 0);
        Check.due("p5 put(0, 1, 0)", x.put(0, 1, 0), true);
        x.get(1, 0, 1);
        Check.due("p5 it leads to itself", x.same(1, 0), true);
        x.get(1, 1, 1);
        Check.due("p5 and again", x.same(1, 0), true);
    }

    /** Terms: "REFERENCES (each nothing, or an object)": an array is put and got as an object is. */
    private static void putOfAnArray() {
        CountedHeap x = heap();
        x.make(0, 1, 0);
        x.array(1, 226, false);
        Check.due("p5 put(0, 0, 1)", x.put(0, 0, 1), true);
        x.get(2, 0, 0);
        Check.due("p5 it is the array", x.same(2, 1), true);
        Check.due("p5 its items", x.size(2, 2), 226);
    }

    /** Promise 6: "Int field of an object": the least int is not the least long. */
    private static void lookAtValues() {
        for (int v : VALUES) {
            for (int field : new int[] {0, 7, 14}) {
                CountedHeap x = heap();
                x.make(0, 0, 15);
                x.set(0, field, v);
                Check.due("p6 look(0, " + field + ")", x.look(0, field), v);
            }
        }
    }

    /** Promise 6: "Int field of an object", which nobody set. */
    private static void lookAtANewInt() {
        CountedHeap x = heap();
        x.make(0, 14, 1);
        Check.due("p6 look(0, 0)", x.look(0, 0), 0);
    }

    /** Promise 7: "Int field of an object becomes v: true." Only that one does. */
    private static void setFirstAndLast() {
        for (int v : VALUES) {
            for (int ints : new int[] {1, 2, 15}) {
                CountedHeap x = heap();
                x.make(0, 15 - ints, ints);
                Check.due("p7 set(0, 0, 3)", x.set(0, 0, 3), true);
                Check.due("p7 set(0, " + (ints - 1) + ", " + v + ")", x.set(0, ints - 1, v), true);
                for (int field = 0; field < ints; field++) {
                    long want = field == ints - 1 ? v : field == 0 ? 3 : 0;
                    Check.due("p7 look(0, " + field + ")", x.look(0, field), want);
                }
                for (int field = 0; field < 15 - ints; field++) {
                    x.get(1, 0, field);
                    Check.isNothing("p7 reference " + field + " stays", x, 1);
                }
            }
        }
    }

    /** Promises 4 to 7 while a cycle goes on: what is not moved yet is got, put, looked at and set all the same. */
    private static void fieldsWhileTheyAreMoved() {
        for (int deep = 0; deep <= 8; deep++) {
            CountedHeap x = heap();
            Fill.keep(x, 160);
            Fill.firstCycle(x);
            x.make(7, 1, 1);
            Check.due("p4 a cycle goes on", x.told(1), 0);
            x.copy(2, 0);
            for (int step = 0; step < deep; step++) {
                Check.due("p4 get(2, 2, 0)", x.get(2, 2, 0), true);
            }
            Check.due("p7 set(2, 13, 9)", x.set(2, 13, 9), true);
            Check.due("p6 look(2, 13)", x.look(2, 13), 9);
            Check.due("p6 look(2, 12)", x.look(2, 12), 0);
            Check.due("p5 put(7, 0, 2)", x.put(7, 0, 2), true);
            Check.due("p5 put(2, 0, 7)", x.put(2, 0, 7), true);
            x.copy(6, 7);
            Fill.wasteUntil(x, 160);
            Check.told("p5 done", x, 1, 1, 160, 160);
            Check.due("p6 look(2, 13)", x.look(2, 13), 9);
            x.get(3, 2, 0);
            Check.due("p5 what was put", x.same(3, 6), true);
            x.get(3, 3, 0);
            Check.due("p5 and back", x.same(3, 2), true);
            x.copy(3, 0);
            for (int step = 0; step < deep; step++) {
                x.get(3, 3, 0);
            }
            Check.due("p4 it is the one on the way", x.same(3, 2), true);
        }
    }

    /** Writes an item until it is written, as the children on the way to it are made one by one. */
    private static int putWhole(CountedHeap x, int of, int i, int from) {
        int answer = x.putItem(of, i, from);
        for (int times = 0; times < 2 && answer == 2; times++) {
            answer = x.putItem(of, i, from);
        }
        return answer;
    }

    private static int setWhole(CountedHeap x, int of, int i, int v) {
        int answer = x.setItem(of, i, v);
        for (int times = 0; times < 2 && answer == 2; times++) {
            answer = x.setItem(of, i, v);
        }
        return answer;
    }

    /** Promise 8: "A register becomes item i of an array of references: true." */
    private static void getItemFirstAndLast() {
        for (int length : LENGTHS) {
            CountedHeap x = heap();
            x.array(0, length, true);
            x.make(1, 0, 1);
            putWhole(x, 0, 0, 1);
            Check.due("p8 getItem(2, 0, 0) of " + length, x.getItem(2, 0, 0), true);
            Check.due("p8 it is the first", x.same(2, 1), true);
            x.make(1, 0, 2);
            putWhole(x, 0, length - 1, 1);
            Check.due("p8 getItem(2, 0, last) of " + length, x.getItem(2, 0, length - 1), true);
            Check.due("p8 it is the last", x.same(2, 1), true);
        }
    }

    /** Promise 8, the same sentence, where the item is nothing, or a child on the way to it is. */
    private static void getItemOfNothingThere() {
        for (int length : LENGTHS) {
            CountedHeap x = heap();
            x.array(0, length, true);
            for (int times = 0; times < 4; times++) {
                x.copy(1, 0);
                Check.due("p8 getItem(1, 0, last) of " + length, x.getItem(1, 0, length - 1), true);
                Check.isNothing("p8 the item of " + length, x, 1);
                x.putItem(0, length - 1, 7);
            }
        }
    }

    /** Promise 8, the same sentence, where the two registers are one. */
    private static void getItemIntoItsOwnRegister() {
        for (int length : LENGTHS) {
            CountedHeap x = heap();
            x.array(0, length, true);
            x.make(1, 0, 1);
            x.copy(2, 0);
            Check.due("p8 getItem(2, 2, last) of " + length, x.getItem(2, 2, length - 1), true);
            Check.isNothing("p8 what the item was", x, 2);
            putWhole(x, 0, length - 1, 1);
            Check.due("p8 getItem(0, 0, last) of " + length, x.getItem(0, 0, length - 1), true);
            Check.due("p8 what the item was", x.same(0, 1), true);
        }
    }

    /** Promise 9: "Item i of an array of references becomes what a register is: 1." Only that one does. */
    private static void putItemFirstAndLast() {
        for (int length : LENGTHS) {
            for (int i : new int[] {0, length - 1}) {
                CountedHeap x = heap();
                x.array(0, length, true);
                x.make(1, 0, 1);
                Check.due("p9 putItem(0, " + i + ", 1) of " + length, putWhole(x, 0, i, 1), 1);
                Check.due("p9 once more", x.putItem(0, i, 1), 1);
                for (int other : new int[] {0, 1, 14, 15, 224, 225, length - 2, length - 1}) {
                    x.drop(2);
                    boolean isItem = other >= 0 && other < length;
                    Check.due("p9 getItem(2, 0, " + other + ")", x.getItem(2, 0, other), isItem);
                    Check.due("p9 item " + other + " is it", x.same(2, 1), other == i);
                }
            }
        }
    }

    /** Promise 9: "When a child on the way to it is nothing, the first of them is made, and the item stays: 2". */
    private static void putItemMakesTheFirstChildAlone() {
        for (int length : LENGTHS) {
            int children = length > 225 ? 2 : length > 15 ? 1 : 0;
            CountedHeap x = heap();
            x.array(0, length, true);
            x.make(1, 0, 0);
            for (int child = 1; child <= children; child++) {
                Check.due("p9 putItem(0, last, 1) of " + length, x.putItem(0, length - 1, 1), 2);
                Check.due("p9 one child is made, told(3)", x.told(3), 17 + 16 * child);
                x.getItem(2, 0, length - 1);
                Check.isNothing("p9 the item stays", x, 2);
            }
            Check.due("p9 putItem(0, last, 1) of " + length, x.putItem(0, length - 1, 1), 1);
            Check.due("p9 no child is made, told(3)", x.told(3), 17 + 16 * children);
            x.getItem(2, 0, length - 1);
            Check.due("p9 the item is written", x.same(2, 1), true);
        }
    }

    /** Promise 9, both sentences, where the register is nothing: so is the item then, and children are made. */
    private static void putItemOfNothing() {
        for (int length : LENGTHS) {
            int children = length > 225 ? 2 : length > 15 ? 1 : 0;
            CountedHeap x = heap();
            x.array(0, length, true);
            for (int child = 0; child < children; child++) {
                Check.due("p9 putItem(0, 0, 7) of " + length, x.putItem(0, 0, 7), 2);
            }
            Check.due("p9 putItem(0, 0, 7) of " + length, x.putItem(0, 0, 7), 1);
            Check.due("p9 putItem(0, 0, 0)", x.putItem(0, 0, 0), 1);
            Check.due("p9 putItem(0, 0, 7)", x.putItem(0, 0, 7), 1);
            x.getItem(1, 0, 0);
            Check.isNothing("p9 the item is nothing", x, 1);
            Check.due("p9 its child stands, told(3)", x.told(3), 16 + 16 * children);
        }
    }

    /** Promise 9, where the two registers are one. */
    private static void putItemOfItself() {
        for (int length : LENGTHS) {
            CountedHeap x = heap();
            x.array(0, length, true);
            Check.due("p9 putItem(0, last, 0) of " + length, putWhole(x, 0, length - 1, 0), 1);
            x.getItem(1, 0, length - 1);
            Check.due("p9 it leads to itself", x.same(1, 0), true);
            Check.due("p9 its items", x.size(1, 2), length);
        }
    }

    /** Promise 9: "2, or 0 when there is no room": but where no child is nothing, none is made, and it is 1. */
    private static void putItemWithNoRoom() {
        CountedHeap x = new Scene(Scene.State.FULL).heap;
        Check.due("p9 a child is nothing", x.putItem(Scene.LARGE_REFERENCES, 225, Scene.LEAF), 0);
        Check.due("p9 no child", x.putItem(Scene.REFERENCES, 1, Scene.LEAF), 1);
        x.getItem(7, Scene.REFERENCES, 1);
        Check.due("p9 the item is written", x.same(7, Scene.LEAF), true);
        x.getItem(7, Scene.LARGE_REFERENCES, 225);
        Check.isNothing("p9 the item stays", x, 7);
    }

    /** Promise 10: "Item i of an array of ints": the least int is not the least long. */
    private static void lookItemAtValues() {
        for (int length : LENGTHS) {
            for (int v : VALUES) {
                CountedHeap x = heap();
                x.array(0, length, false);
                Check.due("p10 lookItem(0, last), not set", x.lookItem(0, length - 1), 0);
                setWhole(x, 0, length - 1, v);
                Check.due("p10 lookItem(0, last) of " + length, x.lookItem(0, length - 1), v);
                setWhole(x, 0, 0, v);
                Check.due("p10 lookItem(0, 0) of " + length, x.lookItem(0, 0), v);
            }
        }
    }

    /** Promise 11: "Item i of an array of ints becomes v: 1". Only that one does. */
    private static void setItemFirstAndLast() {
        for (int length : LENGTHS) {
            for (int i : new int[] {0, length - 1}) {
                CountedHeap x = heap();
                x.array(0, length, false);
                Check.due("p11 setItem(0, " + i + ", -1) of " + length, setWhole(x, 0, i, -1), 1);
                Check.due("p11 once more", x.setItem(0, i, -2), 1);
                for (int other : new int[] {0, 1, 14, 15, 224, 225, length - 2, length - 1}) {
                    boolean isItem = other >= 0 && other < length;
                    long want = !isItem ? Long.MIN_VALUE : other == i ? -2 : 0;
                    Check.due("p11 lookItem(0, " + other + ")", x.lookItem(0, other), want);
                }
            }
        }
    }

    /** Promise 11: "1, 2, or 0, as of putItem()": the first child is made alone, and the item stays: 2. */
    private static void setItemMakesTheFirstChildAlone() {
        for (int length : LENGTHS) {
            int children = length > 225 ? 2 : length > 15 ? 1 : 0;
            CountedHeap x = heap();
            x.array(0, length, false);
            for (int child = 1; child <= children; child++) {
                Check.due("p11 setItem(0, last, 8) of " + length, x.setItem(0, length - 1, 8), 2);
                Check.due("p11 one child is made, told(3)", x.told(3), 16 + 16 * child);
                Check.due("p11 the item stays", x.lookItem(0, length - 1), 0);
            }
            Check.due("p11 setItem(0, last, 8) of " + length, x.setItem(0, length - 1, 8), 1);
            Check.due("p11 no child is made, told(3)", x.told(3), 16 + 16 * children);
            Check.due("p11 the item is written", x.lookItem(0, length - 1), 8);
        }
    }

    /** Promise 11, the same sentence, where v is 0, as the item is already: children are made all the same. */
    private static void setItemOfZero() {
        for (int length : LENGTHS) {
            int children = length > 225 ? 2 : length > 15 ? 1 : 0;
            CountedHeap x = heap();
            x.array(0, length, false);
            for (int child = 0; child < children; child++) {
                Check.due("p11 setItem(0, 0, 0) of " + length, x.setItem(0, 0, 0), 2);
            }
            Check.due("p11 setItem(0, 0, 0) of " + length, x.setItem(0, 0, 0), 1);
            Check.due("p11 setItem(0, 0, 5)", x.setItem(0, 0, 5), 1);
            Check.due("p11 setItem(0, 0, 0)", x.setItem(0, 0, 0), 1);
            Check.due("p11 the item is 0", x.lookItem(0, 0), 0);
            Check.due("p11 its child stands, told(3)", x.told(3), 16 + 16 * children);
        }
    }

    /** Promise 11: "0, as of putItem()": with a first child that stands too, and 1 where both do. */
    private static void setItemWithNoRoom() {
        CountedHeap x = new Scene(Scene.State.FULL).heap;
        Check.due("p11 no child", x.setItem(Scene.INTS, 1, 44), 1);
        Check.due("p11 the item is written", x.lookItem(Scene.INTS, 1), 44);
        x.get(7, Scene.WIDE, 0);
        int there = Fill.itemOfChild(57);
        int missing = Fill.itemOfChild(58);
        Check.due("p11 both children stand", x.setItem(7, there, 45), 1);
        Check.due("p11 the item is written", x.lookItem(7, there), 45);
        Check.due("p11 the second child is nothing", x.setItem(7, missing, 46), 0);
        Check.due("p11 the item stays", x.lookItem(7, missing), 0);
        Check.due("p11 both children are nothing", x.setItem(7, 3374, 47), 0);
        Check.due("p11 the item stays", x.lookItem(7, 3374), 0);
    }

    /** Promises 8 to 11 while a cycle goes on: children that are not moved yet are used all the same. */
    private static void itemsWhileTheyAreMoved() {
        for (int length : new int[] {15, 225, 3375}) {
            for (int i : new int[] {0, length / 2, length - 1}) {
                CountedHeap x = heap();
                Fill.keep(x, 160);
                x.array(1, length, false);
                x.array(2, length, true);
                setWhole(x, 1, i, -3);
                putWhole(x, 2, i, 1);
                x.make(3, 1, 0);
                x.put(3, 0, 2);
                x.drop(1);
                x.drop(2);
                Fill.firstCycle(x);
                x.make(7, 0, 0);
                Check.due("p8 a cycle goes on", x.told(1), 0);
                x.get(2, 3, 0);
                Check.due("p8 getItem(1, 2, " + i + ")", x.getItem(1, 2, i), true);
                Check.due("p10 lookItem(1, " + i + ")", x.lookItem(1, i), -3);
                Check.due("p11 setItem(1, " + i + ", 6)", x.setItem(1, i, 6), 1);
                x.getItem(4, 2, i);
                Check.due("p10 lookItem(4, " + i + ")", x.lookItem(4, i), 6);
                Check.due("p9 putItem(2, " + i + ", 3)", x.putItem(2, i, 3), 1);
                x.drop(4);
                int nodes = length > 225 ? 3 : length > 15 ? 2 : 1;
                Fill.wasteUntil(x, 160 + 2 * 16 * nodes + 2);
                Check.due("p8 done", x.told(1), 1);
                Check.due("p11 lookItem(1, " + i + ")", x.lookItem(1, i), 6);
                x.getItem(4, 2, i);
                Check.due("p9 what was put", x.same(4, 3), true);
            }
        }
    }

    /** Promise 12: "A register becomes what another one is: true", where the two are one. */
    private static void copyToItself() {
        CountedHeap x = heap();
        x.make(0, 0, 1);
        x.set(0, 0, 4);
        Check.due("p12 copy(0, 0)", x.copy(0, 0), true);
        Check.due("p12 it stays", x.look(0, 0), 4);
        Check.due("p12 copy(7, 7), which is nothing", x.copy(7, 7), true);
        Check.isNothing("p12", x, 7);
    }

    /** Promise 12, the same sentence, where the other one is nothing. */
    private static void copyOfNothing() {
        CountedHeap x = heap();
        x.make(0, 0, 1);
        Check.due("p12 copy(0, 7)", x.copy(0, 7), true);
        Check.isNothing("p12", x, 0);
        Check.due("p12 copy(0, 7) again", x.copy(0, 7), true);
    }

    /** Promise 12, the same sentence: it is no other object, and no cell is made. */
    private static void copyIsTheSameObject() {
        CountedHeap x = heap();
        x.make(0, 0, 1);
        Check.due("p12 copy(7, 0)", x.copy(7, 0), true);
        x.set(7, 0, 12);
        Check.due("p12 one object", x.look(0, 0), 12);
        Check.due("p12 same(0, 7)", x.same(0, 7), true);
        Check.due("p12 no cell is made, told(3)", x.told(3), 2);
    }

    /** Promise 13: "A register becomes nothing: whether it was not." */
    private static void dropTwice() {
        CountedHeap x = heap();
        for (int reg = 0; reg < 8; reg++) {
            Check.due("p13 drop(" + reg + ") of nothing", x.drop(reg), false);
            x.make(reg, 0, 0);
            Check.due("p13 drop(" + reg + ")", x.drop(reg), true);
            Check.isNothing("p13", x, reg);
            Check.due("p13 drop(" + reg + ") again", x.drop(reg), false);
        }
        x.array(0, 0, true);
        Check.due("p13 drop(0) of an array", x.drop(0), true);
    }

    /** Promise 13, the same sentence: what the register was stays, where another one is it. */
    private static void dropLeavesOthers() {
        CountedHeap x = heap();
        x.make(0, 1, 1);
        x.set(0, 0, 6);
        x.copy(1, 0);
        x.drop(0);
        Check.due("p13 the other one", x.look(1, 0), 6);
        Check.due("p13 no cell is less made, told(3)", x.told(3), 3);
    }

    /** Promise 14: "Whether two registers are the same object": not whether they are alike. */
    private static void sameOfOneAndOfTwo() {
        CountedHeap x = heap();
        x.make(0, 1, 1);
        x.make(1, 1, 1);
        x.copy(2, 0);
        x.array(3, 15, true);
        x.array(4, 15, true);
        Check.due("p14 same(0, 0)", x.same(0, 0), true);
        Check.due("p14 same(0, 2)", x.same(0, 2), true);
        Check.due("p14 same(2, 0)", x.same(2, 0), true);
        Check.due("p14 same(0, 1)", x.same(0, 1), false);
        Check.due("p14 same(3, 3)", x.same(3, 3), true);
        Check.due("p14 same(3, 4)", x.same(3, 4), false);
    }

    /** Promise 14: "or both nothing": not when one is. */
    private static void sameOfNothing() {
        CountedHeap x = heap();
        x.make(0, 0, 0);
        Check.due("p14 same(6, 7)", x.same(6, 7), true);
        Check.due("p14 same(7, 7)", x.same(7, 7), true);
        Check.due("p14 same(0, 7)", x.same(0, 7), false);
        Check.due("p14 same(7, 0)", x.same(7, 0), false);
    }

    /** Promise 14: "the same object", on two ways of which one is moved before the other. */
    private static void sameWhileMoved() {
        CountedHeap x = heap();
        x.make(0, 2, 0);
        x.make(1, 1, 0);
        x.put(0, 0, 1);
        x.put(0, 1, 1);
        x.put(1, 0, 0);
        x.drop(1);
        for (int i = 0; i < 50; i++) {
            x.make(2, 0, 15);
            x.get(3, 0, 0);
            x.get(4, 0, 1);
            Check.due("p14 one object", x.same(3, 4), true);
            x.get(5, 3, 0);
            Check.due("p14 a ring", x.same(5, 0), true);
            Check.due("p14 another object", x.same(5, 4), false);
            x.drop(5);
        }
        Check.due("p14 cycles began", x.told(0) > 0, true);
    }

    private static void sizesAre(String what, CountedHeap x, int refs, int ints, int items, int cells) {
        Check.due(what + ", size(0, 0)", x.size(0, 0), refs);
        Check.due(what + ", size(0, 1)", x.size(0, 1), ints);
        Check.due(what + ", size(0, 2)", x.size(0, 2), items);
        Check.due(what + ", size(0, 3)", x.size(0, 3), cells);
    }

    /** Promise 15: "how many references (what = 0), ints (1), items (2; -1 of an object) it has". */
    private static void sizeOfObjects() {
        int[][] rows = {{0, 0}, {1, 0}, {0, 1}, {15, 0}, {0, 15}, {7, 8}};
        for (int[] row : rows) {
            CountedHeap x = heap();
            x.make(0, row[0], row[1]);
            sizesAre("p15 an object", x, row[0], row[1], -1, 1 + row[0] + row[1]);
            Fill.firstCycle(x);
            Fill.waste(x, 16);
            Check.due("p15 a cycle began", x.told(0), 1);
            sizesAre("p15 a moved object", x, row[0], row[1], -1, 1 + row[0] + row[1]);
        }
    }

    /** Promise 15: "(of an array -1 for 0 and 1), its first node's cells (3)": with children too, and of no items. */
    private static void sizeOfArrays() {
        for (int length : new int[] {0, 1, 15, 16, 225, 226, 3375}) {
            for (int kind = 0; kind < 2; kind++) {
                CountedHeap x = heap();
                x.array(0, length, kind == 0);
                sizesAre("p15 an array", x, -1, -1, length, 16);
                for (int times = 0; times < 3; times++) {
                    x.putItem(0, length - 1, 0);
                    x.setItem(0, length - 1, 1);
                }
                sizesAre("p15 an array with children", x, -1, -1, length, 16);
                Fill.firstCycle(x);
                Fill.waste(x, 16);
                Check.due("p15 a cycle began", x.told(0), 1);
                sizesAre("p15 a moved array", x, -1, -1, length, 16);
            }
        }
    }

    /** Promise 16: "How many cycles began behind the first (what = 0)". */
    private static void toldOfBegun() {
        CountedHeap x = heap();
        for (int begun = 0; begun < 12; begun++) {
            Check.due("p16 told(0)", x.told(0), begun);
            Fill.wasteUntil(x, 512);
            Check.due("p16 told(0), the cycle is full", x.told(0), begun);
            x.make(7, 0, 15);
            x.drop(7);
        }
    }

    /** Promise 16: "1 when the cycle is done, else 0 (1), R when it is done, else NONE (2)". */
    private static void toldOfDoneAndReached() {
        CountedHeap x = heap();
        x.make(0, 0, 2);
        Check.told("p16 done", x, 0, 1, 0, 3);
        Fill.firstCycle(x);
        for (int made = 1; made <= 5; made++) {
            x.make(7, 0, 0);
            boolean done = made >= 3;
            Check.told("p16 R is 3", x, 1, done ? 1 : 0, done ? 3 : -1, made);
        }
    }

    /** Promise 16: "made (3), LIMIT (4)": made is 0 before all, and LIMIT is the same in every cycle. */
    private static void toldOfMadeAndLimit() {
        CountedHeap x = new CountedHeap(1030, 3);
        Check.due("p16 told(3)", x.told(3), 0);
        Check.due("p16 told(4)", x.told(4), 772);
        x.make(0, 0, 0);
        Check.due("p16 told(3)", x.told(3), 1);
        Fill.firstCycle(x);
        Check.due("p16 told(3)", x.told(3), 772);
        x.array(0, 0, true);
        Check.due("p16 told(3)", x.told(3), 16);
        Check.due("p16 told(4)", x.told(4), 772);
    }

    /** What it is: "An object is used for at most 512 calls after it has been made": the 512th is still answered. */
    private static void the512thCall() {
        for (int last = 0; last < 4; last++) {
            CountedHeap x = heap();
            x.array(0, 226, true);
            x.putItem(0, 225, 0);
            x.make(1, 1, 1);
            x.set(1, 0, 512);
            while (x.callsLeft() > 1) {
                x.make(7, 0, 15);
            }
            if (last == 0) {
                Check.due("the 512th call, look(1, 0)", x.look(1, 0), 512);
            } else if (last == 1) {
                Check.due("the 512th call, make(7, 15, 0)", x.make(7, 15, 0), 1);
            } else if (last == 2) {
                Check.due("the 512th call, putItem(0, 225, 1)", x.putItem(0, 225, 1), 2);
            } else {
                Check.due("the 512th call, steady()", x.steady(), true);
            }
        }
    }
}
