/** Promises 11 and 12: feed and end. */
public final class TapeTest {
    public static void main(String[] args) {
        Check.run(TapeTest.class);
    }

    /** The tape, at most 12 letters, as the next word of the book; the tape is empty then. */
    private static String shown(SwitchDesk x) {
        return Check.spelled(x, x.word(0));
    }

    // ---- 11: feed

    @Says("of both numbers the highest byte first")
    private static void promise11_theHighestByteOfTheFirstNumberComesFirst() {
        SwitchDesk x = new SwitchDesk();
        Check.due("feed", x.feed(0x61626364, 0x65666768), 8);
        Check.due("tape", shown(x), "abcdefgh");
    }

    @Says("Eight letters more come to the TAPE")
    private static void promise11_theyComeBehindWhatIsThere() {
        SwitchDesk x = new SwitchDesk();
        Check.due("feed(ab, c)", x.feed(0x61620000, 0x63000000), 3);
        Check.due("feed(d, ef)", x.feed(0x64000000, 0x65660000), 6);
        Check.due("tape", shown(x), "abcdef");
    }

    @Says("bytes of 0 are left out")
    private static void promise11_zerosAnywhereAreLeftOut() {
        SwitchDesk x = new SwitchDesk();
        Check.due("feed", x.feed(0x00610062, 0x63000064), 4);
        Check.due("tape", shown(x), "abcd");
        for (int i = 0; i < 8; i++) {
            Check.due("a letter at byte " + i, x.feed(i < 4 ? 'q' << 24 - 8 * i : 0, i < 4 ? 0 : 'q' << 56 - 8 * i), 1);
            Check.due("tape", shown(x), "q");
        }
    }

    @Says("bytes of 0 are left out")
    private static void promise11_nothingButZerosAddsNothing() {
        SwitchDesk x = new SwitchDesk();
        Check.due("feed(0, 0)", x.feed(0, 0), 0);
        Check.due("feed(a, 0)", x.feed(0x61000000, 0), 1);
        Check.due("feed(0, 0) again", x.feed(0, 0), 1);
        Check.due("count(2)", x.count(2), 1);
    }

    @Says("how many it has. NONE: more than 26.")
    private static void promise11_twentySixBytesFit() {
        SwitchDesk x = new SwitchDesk();
        Check.due("8", x.feed(0x61626364, 0x65666768), 8);
        Check.due("16", x.feed(0x696a6b6c, 0x6d6e6f70), 16);
        Check.due("24", x.feed(0x71727374, 0x75767778), 24);
        Check.due("26", x.feed(0x797a0000, 0), 26);
        Check.due("count(2)", x.count(2), 26);
        Check.due("all are there", x.lay() > 0, true);
        Check.due("tray", Check.tray(x, 0).replaceAll("[()]", ""), Check.ALPHABET);
    }

    @Says("NONE: more than 26.")
    private static void promise11_theTwentySeventhIsRefused() {
        SwitchDesk x = new SwitchDesk();
        Check.feed(x, Check.ALPHABET);
        Check.due("one more", x.feed(0, 1), -1);
        Check.due("eight more", x.feed(-1, -1), -1);
        Check.due("count(2)", x.count(2), 26);
        Check.due("none more", x.feed(0, 0), 26);
    }

    @Says("NONE: more than 26.")
    private static void promise11_ofWhatIsTooMuchNothingComes() {
        SwitchDesk x = new SwitchDesk();
        Check.feed(x, "abcdefghijklmnopqrst");
        Check.due("seven for six", x.feed(0x75767778, 0x797a7a00), -1);
        Check.due("count(2)", x.count(2), 20);
        Check.due("six for six", x.feed(0x75767778, 0x797a0000), 26);
        Check.due("lay", x.lay() > 0, true);
        Check.due("tray", Check.tray(x, 0).replaceAll("[()]", ""), Check.ALPHABET);
    }

    @Says("NONE: more than 26.")
    private static void promise11_zerosDoNotCountTowards26() {
        SwitchDesk x = new SwitchDesk();
        Check.feed(x, "abcdefghijklmnopqrstuvwxy");
        Check.due("one letter among zeros", x.feed(0, 0x00007a00), 26);
    }

    @Says("of both numbers the highest byte first")
    private static void promise11_numbersBelow0AreBytesToo() {
        SwitchDesk x = new SwitchDesk();
        Check.due("feed(-1, min)", x.feed(-1, Check.MIN), 5);
        Check.due("feed(0, max)", x.feed(0, Check.MAX), 9);
        Check.due("no word", x.word(1), -1);
        x.end(0);
        Check.due("feed(a, ..)", x.feed(0x61ff80fe, 0), 4);
        x.end(1);
        Check.due("tape", shown(x), "a");
    }

    // ---- 12: end

    @Says("The TAPE has its first n bytes alone.")
    private static void promise12_theFirstBytesStay() {
        SwitchDesk x = new SwitchDesk();
        Check.feed(x, "abcdef");
        Check.due("end(2)", x.end(2), true);
        Check.due("count(2)", x.count(2), 2);
        Check.feed(x, "xy");
        Check.due("tape", shown(x), "abxy");
    }

    @Says("The TAPE has its first n bytes alone.")
    private static void promise12_endAt0EmptiesTheTape() {
        SwitchDesk x = new SwitchDesk();
        Check.due("end(0) of an empty one", x.end(0), true);
        Check.feed(x, "abc");
        Check.due("end(0)", x.end(0), true);
        Check.due("count(2)", x.count(2), 0);
        Check.due("lay", x.lay(), -1);
    }

    @Says("The TAPE has its first n bytes alone.")
    private static void promise12_endAtAllItHasLeavesIt() {
        SwitchDesk x = new SwitchDesk();
        Check.feed(x, Check.ALPHABET);
        Check.due("end(26)", x.end(26), true);
        Check.due("count(2)", x.count(2), 26);
    }

    @Says("False: n.")
    private static void promise12_endBehindTheLastByteIsRefused() {
        SwitchDesk x = new SwitchDesk();
        Check.due("end(1) of an empty one", x.end(1), false);
        Check.feed(x, "abc");
        Check.due("end(4)", x.end(4), false);
        Check.due("end(26)", x.end(26), false);
        Check.due("end(max)", x.end(Check.MAX), false);
        Check.due("count(2)", x.count(2), 3);
        Check.feed(x, Check.ALPHABET.substring(3));
        Check.due("end(27)", x.end(27), false);
        x.end(2);
        Check.due("what was cut does not come back", x.end(3), false);
        Check.due("count(2)", x.count(2), 2);
    }

    @Says("False: n.")
    private static void promise12_endBelow0IsRefused() {
        SwitchDesk x = new SwitchDesk();
        Check.due("end(-1) of an empty one", x.end(-1), false);
        Check.feed(x, "abc");
        Check.due("end(-1)", x.end(-1), false);
        Check.due("end(min)", x.end(Check.MIN), false);
        Check.due("tape", shown(x), "abc");
    }
}
