/** Promises 9 and 10: length and at. */
public final class TextTest {
    private static final int[] FAR = {Check.MIN, Check.MIN + 1, -200, -2, 3, 200, 201, Check.MAX - 1, Check.MAX};

    public static void main(String[] args) {
        Check.run(TextTest.class);
    }

    /** THE TEXT is "az", and "q b" was SAID. */
    private static SwitchDesk spoken() {
        SwitchDesk x = new SwitchDesk();
        Check.write(x, "q b");
        Check.only(x, 5, 0, 1);
        Check.write(x, "az");
        return x;
    }

    // ---- 9: length

    @Says("How many bytes THE TEXT has (0)")
    private static void promise09_anEmptyText() {
        Check.due("length(0)", new SwitchDesk().length(0), 0);
    }

    @Says("How many bytes THE TEXT has (0)")
    private static void promise09_aFullText() {
        SwitchDesk x = Check.desk("a");
        for (int i = 1; i < 206; i++) {
            x.press();
            Check.due("length(0)", x.length(0), Math.min(i, 200));
        }
    }

    @Says("or what was SAID (1; NONE: nothing was)")
    private static void promise09_nothingWasSaid() {
        SwitchDesk x = Check.desk("a");
        Check.due("a new object", x.length(1), -1);
        x.press();
        Check.due("a text not said", x.length(1), -1);
        Check.only(x, 5, 0, 1);
        Check.due("said", x.length(1), 1);
        Check.only(x, 3, 0, 1);
        Check.due("said and taken back", x.length(1), -1);
    }

    @Says("or what was SAID (1; NONE: nothing was)")
    private static void promise09_anEmptyTextWasSaid() {
        SwitchDesk x = new SwitchDesk();
        Check.only(x, 5, 0, 1);
        Check.due("length(1)", x.length(1), 0);
    }

    @Says("or what was SAID (1; NONE: nothing was)")
    private static void promise09_aFullTextWasSaid() {
        SwitchDesk x = new SwitchDesk();
        Check.only(x, 1, 'a', 200);
        Check.only(x, 5, 0, 1);
        Check.due("length(1)", x.length(1), 200);
        Check.due("length(0)", x.length(0), 0);
    }

    @Says("NONE for others.")
    private static void promise09_noneForOthers() {
        SwitchDesk x = spoken();
        Check.due("length(0)", x.length(0), 2);
        Check.due("length(1)", x.length(1), 3);
        Check.due("length(-1)", x.length(-1), -1);
        Check.due("length(2)", x.length(2), -1);
        for (int what : FAR) {
            Check.due("length(" + what + ")", x.length(what), -1);
        }
    }

    // ---- 10: at

    @Says("Byte i of THE TEXT (0), or of what was SAID (1).")
    private static void promise10_theFirstAndTheLastByte() {
        SwitchDesk x = spoken();
        Check.due("at(0, 0)", Check.at(x, 0, 0), 'a');
        Check.due("at(0, 1)", Check.at(x, 0, 1), 'z');
        Check.due("at(1, 0)", Check.at(x, 1, 0), 'q');
        Check.due("at(1, 1)", Check.at(x, 1, 1), 32);
        Check.due("at(1, 2)", Check.at(x, 1, 2), 'b');
    }

    @Says("NoSuchElementException: there is none such.")
    private static void promise10_noByteBefore0() {
        SwitchDesk x = spoken();
        for (int what = 0; what < 2; what++) {
            Check.due("at(" + what + ", -1)", Check.at(x, what, -1), Check.NO_SUCH);
            Check.due("at(" + what + ", min)", Check.at(x, what, Check.MIN), Check.NO_SUCH);
        }
    }

    @Says("NoSuchElementException: there is none such.")
    private static void promise10_noByteBehindTheLast() {
        SwitchDesk x = spoken();
        Check.due("at(0, 2)", Check.at(x, 0, 2), Check.NO_SUCH);
        Check.due("at(1, 3)", Check.at(x, 1, 3), Check.NO_SUCH);
        for (int i : FAR) {
            Check.due("at(0, " + i + ")", Check.at(x, 0, i), Check.NO_SUCH);
            Check.due("at(1, " + i + ")", Check.at(x, 1, i), Check.NO_SUCH);
        }
    }

    @Says("NoSuchElementException: there is none such.")
    private static void promise10_noByteOfAnEmptyText() {
        SwitchDesk x = new SwitchDesk();
        Check.due("at(0, 0)", Check.at(x, 0, 0), Check.NO_SUCH);
        Check.write(x, "a");
        Check.only(x, 2, 0, 1);
        Check.due("at(0, 0) behind BACK", Check.at(x, 0, 0), Check.NO_SUCH);
    }

    @Says("NoSuchElementException: there is none such.")
    private static void promise10_noByteWhereNothingOrAnEmptyTextWasSaid() {
        SwitchDesk x = new SwitchDesk();
        Check.write(x, "a");
        Check.due("nothing was SAID", Check.at(x, 1, 0), Check.NO_SUCH);
        Check.only(x, 2, 0, 1);
        Check.only(x, 5, 0, 1);
        Check.due("an empty text was SAID", Check.at(x, 1, 0), Check.NO_SUCH);
    }

    @Says("NoSuchElementException: there is none such.")
    private static void promise10_noByteOfOthers() {
        SwitchDesk x = spoken();
        Check.due("at(-1, 0)", Check.at(x, -1, 0), Check.NO_SUCH);
        Check.due("at(2, 0)", Check.at(x, 2, 0), Check.NO_SUCH);
        for (int what : FAR) {
            Check.due("at(" + what + ", 0)", Check.at(x, what, 0), Check.NO_SUCH);
        }
    }

    @Says("Byte i of THE TEXT (0), or of what was SAID (1).")
    private static void promise10_allBytesOfAFullText() {
        SwitchDesk x = Check.desk("ab");
        for (int i = 0; i < 200; i++) {
            x.tick(i % 3 == 0 ? 4 : 0);
            x.press();
        }
        for (int i = 0; i < 200; i++) {
            Check.due("at(0, " + i + ")", Check.at(x, 0, i), i % 3 == 0 ? 'b' : 'a');
        }
        Check.due("at(0, 200)", Check.at(x, 0, 200), Check.NO_SUCH);
    }
}
