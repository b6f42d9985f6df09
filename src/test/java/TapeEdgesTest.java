/** The edges of promise 3 and of the term THE TAPE: numbers 0 .. 999999, 200 of them at most. */
public final class TapeEdgesTest {
    private static final Due due = new Due("TapeEdgesTest");

    /** A new object with one box and a tape that has so many times this number. */
    private static LockerRows withTape(int count, int number) {
        LockerRows x = Due.withBoxes(1, 1);
        for (int n = 1; n <= count; n++) {
            due.is("number " + n, x.tape(number), n);
        }
        return x;
    }

    /** "THE TAPE has numbers 0 .. 999999" */
    private static void theFirstAndTheLastNumber() {
        LockerRows x = Due.withBoxes(1, 1);
        due.is(x, Call.tape(0), 1);
        due.is(x, Call.tape(999999), 2);
        due.is("the first number is a code", Due.store(x, 1, 1, 0), 0);
        due.is("the last number is a code", Due.store(x, 2, 2, 0), 999999);
    }

    /** "OUTSIDE": and nothing is behind the tape then. */
    private static void numbersOutside() {
        LockerRows x = Due.withBoxes(1);
        for (int v : Edges.outside(0, 999999)) {
            due.is(x, Call.tape(v), LockerRows.OUTSIDE);
        }
        due.is("the tape is empty still", Due.store(x, 1, 1, 0), LockerRows.ROOM);
        due.is(x, Call.tape(5), 1);
        due.is(x, Call.tape(1000000), LockerRows.OUTSIDE);
        due.is(x, Call.tape(-1), LockerRows.OUTSIDE);
        due.is(x, Call.tape(6), 2);
    }

    /** "ROOM (200)": and the tape is as it was. */
    private static void theTwoHundredthIsTheLast() {
        LockerRows x = withTape(199, 4);
        due.is("the 200th", x.tape(5), 200);
        due.is("the 201st", x.tape(6), LockerRows.ROOM);
        due.is("the 201st again", x.tape(0), LockerRows.ROOM);
        due.is("the first is a code", Due.store(x, 1, 1, 0), 4);
        due.is("the 200th is the code behind 198 in use", Due.store(x, 2, 2, 0), 5);
        due.is("nothing is left", x.tape(7), 1);
    }

    /** "of several the first one here": OUTSIDE is ahead of ROOM. */
    private static void aWrongNumberWithoutRoom() {
        LockerRows x = withTape(200, 4);
        for (int v : Edges.outside(0, 999999)) {
            due.is(x, Call.tape(v), LockerRows.OUTSIDE);
        }
        due.is(x, Call.tape(0), LockerRows.ROOM);
    }

    /** "that and all before it go": there is room for just as many then. */
    private static void roomComesBackOneByOne() {
        LockerRows x = withTape(200, 4);
        due.is("one goes", Due.store(x, 1, 1, 0), 4);
        due.is("one more", x.tape(5), 200);
        due.is("not two", x.tape(5), LockerRows.ROOM);
        due.is("all of them go", Due.store(x, 2, 2, 0), 5);
        due.is("the tape begins anew", x.tape(6), 1);
    }

    /** "the first of them that is no code of an item that lies": it may be none of 200. */
    private static void aFullTapeMayHaveNone() {
        LockerRows x = withTape(200, 4);
        Due.store(x, 1, 1, 0);
        due.is("as many as there can be", x.tape(4), 200);
        due.is("all of them are in use", Due.store(x, 2, 2, 0), LockerRows.ROOM);
        due.is("none of them went", x.tape(5), LockerRows.ROOM);
        x.door(1, 0, 0);
        due.is("the item goes", x.take(1, 0), 1);
        due.is("its code is free again", x.close(2, 0), 4);
        due.is("one went", x.tape(6), 200);
    }

    /** The tape is used for more than 200 numbers in all: they come in the order in which they went in. */
    private static void theTapeGoesRound() {
        LockerRows x = Due.withBoxes(1);
        for (int v = 0; v < 150; v++) {
            x.tape(v);
        }
        int next = 150;
        int first = 0;
        x.door(1, 0, 0);
        for (int round = 0; round < 70; round++) {
            x.put(1, 1, 0);
            due.is("code " + first, x.close(1, 0), first);
            due.is("number " + next, x.tape(next), 150);
            due.is("type " + first, x.type(first, 0), 1);
            first++;
            next++;
        }
        due.is("all are counted", x.tape(999), 151);
    }

    /** As many codes as there are boxes are in use, and all of them stand before the one that is wanted. */
    private static void sixtyBoxesWantCodes() {
        LockerRows x = Due.withEqualBoxes(60, 1);
        for (int box = 1; box < 60; box++) {
            x.tape(1000 - box);
            due.is("box " + box, Due.store(x, box, box, 0), 1000 - box);
        }
        for (int box = 1; box < 60; box++) {
            x.tape(1000 - box);
        }
        due.is("one more", x.tape(3), 60);
        due.is("behind 59 in use", Due.store(x, 60, 60, 0), 3);
        due.is("all went", x.tape(4), 1);
    }

    public static void main(String[] args) {
        theFirstAndTheLastNumber();
        numbersOutside();
        theTwoHundredthIsTheLast();
        aWrongNumberWithoutRoom();
        roomComesBackOneByOne();
        aFullTapeMayHaveNone();
        theTapeGoesRound();
        sixtyBoxesWantCodes();
        due.end();
    }
}
