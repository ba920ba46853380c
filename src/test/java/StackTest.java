/** Promises 5 to 8: depth, size, at, number. */
final class StackTest {
    private static final int[] NOWHERE = {-1, 3, 200, Integer.MIN_VALUE, Integer.MAX_VALUE};

    public static void main(String[] args) {
        depth();
        size();
        at();
        number();
        numberRefuses();
        askingChangesNothing();
        Check.finish();
    }

    private static void depth() {
        Check.same("of none", Scripts.ran("", "").depth(), 0);
        Check.same("of three", Scripts.ran("1 2", "3").depth(), 3);
        Check.same("of 200", Scripts.ran("0*150", "1*50").depth(), 200);
        Check.same("the other stack is none of it", Scripts.ran("1 2 3", "TOALT").depth(), 2);
    }

    private static void size() {
        ScriptDesk desk = Scripts.ran("x" + "ab".repeat(255) + " 0", "x010203");
        Check.same("of the top", desk.size(0), 3);
        Check.same("of nothing", desk.size(1), 0);
        Check.same("of the longest", desk.size(2), 255);
        for (int k : NOWHERE) {
            Check.refused("size " + k, IndexOutOfBoundsException.class, () -> desk.size(k));
        }
    }

    private static void at() {
        ScriptDesk desk = Scripts.ran("x00ff807f", "0 x05");
        Check.same("first", desk.at(2, 0), 0);
        Check.same("second", desk.at(2, 1), 255);
        Check.same("third", desk.at(2, 2), 128);
        Check.same("last", desk.at(2, 3), 127);
        Check.same("of the top", desk.at(0, 0), 5);
        for (int i : new int[] {-1, 4, 255, Integer.MIN_VALUE, Integer.MAX_VALUE}) {
            Check.refused("byte " + i, IndexOutOfBoundsException.class, () -> desk.at(2, i));
        }
        Check.refused("byte of nothing", IndexOutOfBoundsException.class, () -> desk.at(1, 0));
        for (int k : NOWHERE) {
            Check.refused("at " + k, IndexOutOfBoundsException.class, () -> desk.at(k, 0));
        }
    }

    private static void number() {
        reads("-", 0);
        reads("00", 0);
        reads("80", 0);
        reads("00000080", 0);
        reads("01", 1);
        reads("81", -1);
        reads("7f", 127);
        reads("ff", -127);
        reads("ff00", 255);
        reads("ff80", -255);
        reads("0100", 1);
        reads("01000080", -1);
        reads("0080", 0);
        reads("0180", -1);
        reads("34127856", 0x56781234);
        reads("3412f8d6", -0x56f81234);
        reads("ffffff7f", Integer.MAX_VALUE);
        reads("ffffffff", -Integer.MAX_VALUE);
    }

    private static void reads(String thing, int due) {
        ScriptDesk desk = Scripts.ran(thing.equals("-") ? "0" : "x" + thing, "5");
        Check.same("number of " + thing, desk.number(1), due);
        Check.same("number above " + thing, desk.number(0), 5);
    }

    private static void numberRefuses() {
        ScriptDesk desk = Scripts.ran("x0000000000 x0102030405", "x" + "01".repeat(255));
        for (int k = 0; k < 3; k++) {
            int place = k;
            Check.refused("long number " + k, ArithmeticException.class, () -> desk.number(place));
        }
        for (int k : NOWHERE) {
            Check.refused("number " + k, IndexOutOfBoundsException.class, () -> desk.number(k));
        }
        ScriptDesk sum = Scripts.ran("xffffff7f 1ADD", "");
        Check.refused("a sum of five bytes", ArithmeticException.class, () -> sum.number(0));
    }

    private static void askingChangesNothing() {
        ScriptDesk desk = Scripts.ran("x0102 3", "0");
        for (int i = 0; i < 3; i++) {
            Check.same("stack, time " + i, Scripts.stack(desk), "0102 03 -");
            Check.same("number, time " + i, desk.number(2), 0x0201);
        }
    }
}
