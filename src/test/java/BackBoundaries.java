/** Boundary cases of promises 43 to 49: trays, back. */
final class BackBoundaries extends Boundaries {
    // ---- Promise 43: tray

    @Sentence(promise = 43, words = "A TRAY has n longs, all 0 (in place of others): 0.")
    static void trayOfNoneAndOfTwentyLongs() {
        for (int tray = 0; tray < 3; tray++) {
            BitRecogniser x = crammed();
            due("tray(" + tray + ", 20)", x.tray(tray, 20), 0);
            for (int i = 0; i < 20; i++) {
                due("number(" + tray + ", " + i + ")", x.number(tray, i), 0);
            }
            due("number(" + tray + ", 20)", x.number(tray, 20), NO_ROOM);
            due("tray(" + tray + ", 0)", x.tray(tray, 0), 0);
            due("number(" + tray + ", 0) of none", x.number(tray, 0), NO_ROOM);
        }
    }

    @Sentence(promise = 43, words = "A TRAY has n longs, all 0 (in place of others): 0.")
    static void otherTraysStay() {
        BitRecogniser x = doubling(LONGEST);
        for (int tray = 0; tray < 3; tray++) {
            x.tray(tray, 20);
            x.copy(tray, 0, 0);
            x.copy(tray, 6, 0);
        }
        due("tray(1, 20)", x.tray(1, 20), 0);
        due("number(0, 19), the last of the one ahead", x.number(0, 19), 1);
        due("number(1, 0)", x.number(1, 0), 0);
        due("number(1, 19)", x.number(1, 19), 0);
        due("number(2, 0), the first of the next one", x.number(2, 0), 0x101);
    }

    @Sentence(promise = 43, words = "-2;")
    static void trayThatIsNone() {
        bounds(NO_SUCH, "tray, tray", 0, 2, Boundaries::busy, (x, tray) -> x.tray(tray, 1));
        bounds(NO_SUCH, "tray of a new object, tray", 0, 2, BitRecogniser::new, (x, tray) -> x.tray(tray, 20));
    }

    @Sentence(promise = 43, words = "-3, and the TRAY stays: n is below 0 or above 20.")
    static void trayOfTooFewOrTooMany() {
        bounds(NO_NUMBER, "tray 0, n", 0, 20, Boundaries::busy, (x, n) -> x.tray(0, n));
        bounds(NO_NUMBER, "tray 1, which is MISSING, n", 0, 20, Boundaries::busy, (x, n) -> x.tray(1, n));
        bounds(NO_NUMBER, "tray 2, n", 0, 20, Boundaries::crammed, (x, n) -> x.tray(2, n));
    }

    // ---- Promise 44: copy

    @Sentence(promise = 44, words = "All cells of SPANS that begin at i (by rising ends) come into a TRAY from its place at on: how many.")
    static void copyOfNoneAndOfFourteenCells() {
        BitRecogniser x = doubling(LONGEST);
        x.tray(1, 14);
        due("copy(1, 0, 0)", x.copy(1, 0, 0), 14);
        for (int i = 0; i < 14; i++) {
            due("number(1, " + i + ")", x.number(1, i), x.cell(0, i + 1));
        }
        due("copy(1, 13, 13)", x.copy(1, 13, 13), 1);
        due("number(1, 13)", x.number(1, 13), 0x101);
        due("number(1, 12)", x.number(1, 12), 1);
        due("copy(1, 14, 14) of none", x.copy(1, 14, 14), 0);
        x.tray(2, 0);
        due("copy(2, 0, 14) of none into none", x.copy(2, 0, 14), 0);
        due("copy(0, 0, 0) of no LETTERS", noLettersInATray().copy(0, 0, 0), 0);
    }

    private static BitRecogniser noLettersInATray() {
        BitRecogniser x = doubling("");
        x.tray(0, 0);
        return x;
    }

    @Sentence(promise = 44, words = "-2: the TRAY, i (0 to the length of THE WORD)")
    static void copyOfNoTrayOrPlace() {
        bounds(NO_SUCH, "copy, tray", 0, 2, Boundaries::crammed, (x, tray) -> x.copy(tray, 0, 0));
        bounds(NO_SUCH, "copy, i", 0, 14, Boundaries::crammed, (x, i) -> x.copy(0, 0, i));
        bounds(NO_SUCH, "copy, i", 0, 4, Boundaries::busy, (x, i) -> x.copy(2, 0, i));
        bounds(NO_SUCH, "copy of no LETTERS, i", 0, 0, BackBoundaries::noLettersInATray, (x, i) -> x.copy(0, 0, i));
    }

    @Sentence(promise = 44, words = "-6: the TRAY;")
    static void copyIntoAMissingTray() {
        each(NOT_MADE, "copy into a MISSING TRAY, i", new int[] {0, 4}, Boundaries::busy, (x, i) -> x.copy(1, 0, i));
        each(NOT_MADE, "copy into a TRAY of a new object, tray", new int[] {0, 1, 2}, BitRecogniser::new, (x, tray) -> x.copy(tray, 0, 0));
    }

    @Sentence(promise = 44, words = "-7: at is below 0, at and how many come together are above how many it has (nothing comes).")
    static void copyWhereThereIsNoRoom() {
        bounds(NO_ROOM, "copy of 14 into 20, at", 0, 6, Boundaries::crammed, (x, at) -> x.copy(2, at, 0));
        bounds(NO_ROOM, "copy of 4 into 20, at", 0, 16, Boundaries::busy, (x, at) -> x.copy(2, at, 0));
        bounds(NO_ROOM, "copy of 3 into 3, at", 0, 0, Boundaries::busy, (x, at) -> x.copy(0, at, 1));
        bounds(NO_ROOM, "copy of none into 3, at", 0, 3, Boundaries::busy, (x, at) -> x.copy(0, at, 4));
        bounds(NO_ROOM, "copy of none into none, at", 0, 0, BackBoundaries::noLettersInATray, (x, at) -> x.copy(0, at, 0));
        each(NO_ROOM, "copy of 4 into 3, at", new int[] {-1, 0, GREATEST_INT}, Boundaries::busy, (x, at) -> x.copy(0, at, 0));
        // the greatest ones that wrap around with how many come
        each(NO_ROOM, "copy of 4 into 20, at", new int[] {GREATEST_INT - 3, GREATEST_INT - 4, LEAST_INT + 1}, Boundaries::busy, (x, at) -> x.copy(2, at, 0));
    }

    // ---- Promise 45: number

    @Sentence(promise = 45, words = "Number i of a TRAY.")
    static void firstAndLastNumber() {
        BitRecogniser x = crammed();
        due("number(0, 0)", x.number(0, 0), 0);
        due("number(0, 5)", x.number(0, 5), 0);
        due("number(0, 6)", x.number(0, 6), 1L << 8);
        due("number(1, 3)", x.number(1, 3), 1L << 11);
        due("number(1, 4), of the highest bit", x.number(1, 4), 1L << 61);
        due("number(2, 19)", x.number(2, 19), 0);
    }

    @Sentence(promise = 45, words = "-2: the TRAY; -6; -7.")
    static void numberThatIsNotThere() {
        bounds(NO_SUCH, "number, tray", 0, 2, Boundaries::crammed, (x, tray) -> x.number(tray, 0));
        each(NOT_MADE, "number of a MISSING TRAY, i", new int[] {-1, 0, 19, 20, LEAST_INT, GREATEST_INT}, Boundaries::busy, (x, i) -> x.number(1, i));
        each(NOT_MADE, "number of a new object, tray", new int[] {0, 1, 2}, BitRecogniser::new, (x, tray) -> x.number(tray, 0));
        bounds(NO_ROOM, "number of 20, i", 0, 19, Boundaries::crammed, (x, i) -> x.number(2, i));
        bounds(NO_ROOM, "number of 3, i", 0, 2, Boundaries::busy, (x, i) -> x.number(0, i));
        each(NO_ROOM, "number of none, i", new int[] {-1, 0, LEAST_INT, GREATEST_INT}, BackBoundaries::noLettersInATray, (x, i) -> x.number(0, i));
    }

    // ---- Promise 46: undo

    /** Ten words of one to ten letters, each a call to undo. */
    private static BitRecogniser tenWords() {
        BitRecogniser x = new BitRecogniser();
        for (int n = 1; n <= 10; n++) {
            word(x, LONGEST.substring(0, n));
        }
        return x;
    }

    @Sentence(promise = 46, words = "n calls (1 to 10) are UNDONE: how many still can be.")
    static void undoOfOneToTen() {
        for (int n = 1; n <= 10; n++) {
            BitRecogniser x = tenWords();
            due("undo(" + n + ")", x.undo(n), 10 - n);
            due("count(6)", x.count(6), 10 - n);
            due("count(5)", x.count(5), 10 - n);
            due("undo(" + (11 - n) + ")", x.undo(11 - n), NO_NUMBER);
        }
    }

    @Sentence(promise = 46, words = "-3: n, more than can be.")
    static void undoOfNoneAndOfMoreThanCanBe() {
        bounds(NO_NUMBER, "undo of ten", 1, 10, BackBoundaries::tenWords, BitRecogniser::undo);
        bounds(NO_NUMBER, "undo of eighteen told, of which ten can be", 1, 10, Boundaries::crammed, BitRecogniser::undo);
        bounds(NO_NUMBER, "undo of one", 1, 1, () -> startAt(new BitRecogniser(), 1), BitRecogniser::undo);
        each(NO_NUMBER, "undo of none", new int[] {-1, 0, 1, 10, 11, LEAST_INT, GREATEST_INT}, BitRecogniser::new, BitRecogniser::undo);
    }

    // ---- Promise 47: image

    @Sentence(promise = 47, words = "An IMAGE is made: 0. -2.")
    static void imageOfTheFirstAndTheLast() {
        bounds(NO_SUCH, "image", 0, 1, Boundaries::busy, BitRecogniser::image);
        bounds(NO_SUCH, "image of a new object", 0, 1, BitRecogniser::new, BitRecogniser::image);
        BitRecogniser x = new BitRecogniser();
        due("image(0) of nothing", x.image(0), 0);
        rule(x, "Aa");
        due("image(1)", x.image(1), 0);
        due("image(1) once more", x.image(1), 0);
        due("restore(0)", x.restore(0), 0);
        due("count(0)", x.count(0), 0);
        due("restore(1)", x.restore(1), 0);
        due("count(0)", x.count(0), 1);
    }

    @Sentence(promise = 47, words = "An IMAGE is made: 0. -2.")
    static void imageInPlaceOfAnother() {
        BitRecogniser x = crammed();
        x.start(4);
        due("image(0)", x.image(0), 0);
        x.start(5);
        due("restore(0)", x.restore(0), 0);
        due("count(4)", x.count(4), 4);
        due("restore(1), which stays", x.restore(1), 0);
        due("count(4)", x.count(4), 0);
    }

    // ---- Promise 48: restore

    @Sentence(promise = 48, words = "All that is in an IMAGE is as it was: 0.")
    static void restoreOfTheFirstAndTheLast() {
        BitRecogniser x = crammed();
        due("restore(0), of no WORD", x.restore(0), 0);
        due("count(5)", x.count(5), 0);
        due("count(1)", x.count(1), 0xFFFF);
        due("count(7), which is in none", x.count(7), 40);
        due("number(0, 6), which is in none", x.number(0, 6), 1L << 8);
        due("fault(1), which is in none", x.fault(1), 2);
        due("restore(1), of a WORD", x.restore(1), 0);
        due("count(5)", x.count(5), 14);
        due("restore(1) once more", x.restore(1), 0);
        due("count(5)", x.count(5), 14);
    }

    @Sentence(promise = 48, words = "-2; -6: none was made.")
    static void restoreOfNone() {
        bounds(NO_SUCH, "restore", 0, 1, Boundaries::crammed, BitRecogniser::restore);
        each(NO_SUCH, "restore of a new object", new int[] {-1, 2, LEAST_INT, GREATEST_INT}, BitRecogniser::new, BitRecogniser::restore);
        each(NOT_MADE, "restore of a new object", new int[] {0, 1}, BitRecogniser::new, BitRecogniser::restore);
        answers(NOT_MADE, "restore(0) where 1 alone was made", Boundaries::busy, x -> x.restore(0));
    }

    // ---- Promise 49: count

    @Sentence(promise = 49, words = "0 RULES, 1 their numbers as bits, 2 UNITS, 3 HELPERS, 4 START, 5 LETTERS of THE WORD, "
            + "6 calls that can be UNDONE, 7 bytes on THE TAPE.")
    static void countsOfNothingAndOfAllPlacesTaken() {
        int[] none = {0, 0, 0, 0, 0, 0, 0, 0};
        int[] all = {16, 0xFFFF, 0, 48, 0, 14, 10, 40};
        int[] some = {6, 0x7B, 3, 3, 0, 4, 10, 20};
        for (int what = 0; what <= 7; what++) {
            due("count(" + what + ") of a new object", new BitRecogniser().count(what), none[what]);
            due("count(" + what + ") of all places taken", crammed().count(what), all[what]);
            due("count(" + what + ")", busy().count(what), some[what]);
        }
        BitRecogniser x = startAt(new BitRecogniser(), 7);
        due("count(4) of the last SYMBOL", x.count(4), 7);
        for (int r = 0; r < 8; r++) {
            rule(x, "H" + "ABCDEFGH".charAt(r));
            rule(x, "G" + "ABCDEFGH".charAt(r));
        }
        due("count(2) of sixteen UNITS", x.count(2), 16);
    }

    @Sentence(promise = 49, words = "NONE for others.")
    static void countOfOthers() {
        each(NONE, "count", new int[] {-1, 8, LEAST_INT, GREATEST_INT}, Boundaries::busy, BitRecogniser::count);
        each(NONE, "count of a new object", new int[] {-1, 8}, BitRecogniser::new, BitRecogniser::count);
    }
}
