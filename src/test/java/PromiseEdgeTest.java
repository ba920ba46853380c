import java.util.Arrays;

/** Every sentence of the promises that names an edge, one after the other; those of the terms: TermsEdgeTest. */
final class PromiseEdgeTest {
    private static final Class<IllegalStateException> STATE = IllegalStateException.class;
    private static final Class<IllegalArgumentException> ARGUMENT = IllegalArgumentException.class;
    private static final Class<IndexOutOfBoundsException> INDEX = IndexOutOfBoundsException.class;
    private static final Class<ArithmeticException> ARITHMETIC = ArithmeticException.class;

    public static void main(String[] args) {
        lastCallOfAnObject();
        newIsEmpty();
        feedTwentyBytes();
        feedAnswersTheLength();
        feedRefusesMoreThanThousand();
        endKeepsTheFirst();
        endRefuses();
        runTakesTwoScripts();
        runBeginsOnAnEmptyStack();
        runEmptiesTheRow();
        runKeepsTheStackOfAFailure();
        runTellsTrueFromNot();
        runRefuses();
        depthCounts();
        sizeOfThings();
        sizeRefuses();
        atBytes();
        atRefuses();
        numberOfThings();
        numberRefusesNone();
        numberRefusesFiveBytes();
        sigsCounts();
        sigsOfTheFirst();
        sigsBeyond();
        sigsRefuses();
        hashWords();
        hashOfEveryKind();
        hashRefuses();
        Check.finish();
    }

    /** THE ROW has 30 bytes, and the stack three THINGS: of five bytes, of none, and 07 on top. */
    private static ScriptDesk worked() {
        ScriptDesk desk = Scripts.ran("x0102030405 0", "7");
        Scripts.feed(desk, Arrays.copyOf(Scripts.bytes("CHECKSIG 1 2"), 30));
        return desk;
    }

    private static ScriptDesk full() {
        ScriptDesk desk = Scripts.ran("5", "");
        Scripts.feed(desk, counting(1000));
        return desk;
    }

    private static byte[] counting(int length) {
        byte[] bytes = new byte[length];
        for (int i = 0; i < length; i++) {
            bytes[i] = (byte) (i * 7 + i / 256 + 1);
        }
        return bytes;
    }

    private static void lastCallOfAnObject() {
        Check.about("An object is used for at most 512 calls after it has been made");
        ScriptDesk desk = new ScriptDesk();
        // Eight numbers, eight sums, four THINGS dropped: fifty times that is what a row can have.
        int[] words = {0x51525354, 0x55565758, 0xa8a6a9aa, 0xa8a6a9aa, 0x75757575};
        for (int run = 0; run < 10; run++) {
            for (int fed = 1; fed <= 50; fed++) {
                Check.same("feed", desk.feed(words[0], words[1], words[2], words[3], words[4]), 20 * fed);
            }
            Check.same("run " + run, desk.run(320), 0);
        }
        Check.same("call 511", desk.feed(words[0], words[1], words[2], words[3], words[4]), 20);
        Check.same("call 512", desk.run(20), 2);
    }

    private static void newIsEmpty() {
        Check.about("THE ROW and the stack are empty; nothing failed.");
        ScriptDesk desk = new ScriptDesk();
        Check.same("length", State.length(desk), 0);
        Check.same("state", State.of(desk), State.of(Scripts.fed(new byte[0])));
        Check.same("depth", desk.depth(), 0);
        State.refused("end 1", ARGUMENT, desk, () -> desk.end(1));
        State.refused("run 1", ARGUMENT, desk, () -> desk.run(1));
        State.refused("sigs 1", ARGUMENT, desk, () -> desk.sigs(1));
        State.refused("size 0", INDEX, desk, () -> desk.size(0));
        State.refused("at 0, 0", INDEX, desk, () -> desk.at(0, 0));
        State.refused("number 0", INDEX, desk, () -> desk.number(0));
        State.answers("end 0", 0, desk, () -> desk.end(0));
        State.answers("sigs 0", 0, desk, () -> desk.sigs(0));
        State.answers("run 0", 1, desk, () -> desk.run(0));
    }

    private static void feedTwentyBytes() {
        Check.about("Twenty bytes come to THE ROW, the highest of a first");
        ScriptDesk desk = new ScriptDesk();
        desk.feed(0x13808182, 0x83848586, 0x8788898a, 0x8b8c8d8e, 0x8f9091ff);
        desk.run(0);
        Check.same("with signs", Scripts.stack(desk), "808182838485868788898a8b8c8d8e8f9091ff");
        desk.feed(0x13000000, Integer.MIN_VALUE, Integer.MAX_VALUE, -1, 0);
        desk.run(20);
        Check.same("the ends of int", Scripts.stack(desk), "000000800000007fffffffffffffff00000000");
        ScriptDesk stack = worked();
        String before = Scripts.stack(stack);
        stack.feed(1, 2, 3, 4, 5);
        Check.same("the stack stays", Scripts.stack(stack), before);
        for (int had = 0; had <= 980; had += 245) {
            byte[] whole = counting(had + 20);
            ScriptDesk grown = Scripts.fed(counting(had));
            feedLast(grown, whole);
            Check.same("behind " + had, State.row(grown), State.row(Scripts.fed(whole)));
        }
    }

    private static void feedLast(ScriptDesk desk, byte[] whole) {
        int[] words = new int[5];
        for (int i = 0; i < 20; i++) {
            words[i / 4] = words[i / 4] << 8 | whole[whole.length - 20 + i] & 255;
        }
        desk.feed(words[0], words[1], words[2], words[3], words[4]);
    }

    private static void feedAnswersTheLength() {
        Check.about("how many it has.");
        for (int had : new int[] {0, 1, 19, 20, 235, 236, 237, 979, 980}) {
            ScriptDesk desk = Scripts.fed(new byte[had]);
            Check.same("behind " + had, desk.feed(-1, -1, -1, -1, -1), had + 20);
            Check.same("has it", State.length(desk), had + 20);
        }
    }

    private static void feedRefusesMoreThanThousand() {
        Check.about("IllegalStateException if they would be more than 1000.");
        for (int had : new int[] {1000, 999, 990, 982, 981}) {
            ScriptDesk desk = full();
            desk.end(had);
            State.refused("feed at " + had, STATE, desk, () -> desk.feed(1, 2, 3, 4, 5));
            State.refused("again at " + had, STATE, desk, () -> desk.feed(0, 0, 0, 0, 0));
            desk.end(980);
            Check.same("feed at 980", desk.feed(1, 2, 3, 4, 5), 1000);
        }
        // What was refused is not there when the row is longer later on.
        ScriptDesk desk = Scripts.fed(counting(990));
        Check.refused("feed at 990", STATE, () -> desk.feed(-1, -1, -1, -1, -1));
        desk.end(970);
        feedLast(desk, counting(990));
        Check.same("fed again", State.row(desk), State.row(Scripts.fed(counting(990))));
    }

    private static void endKeepsTheFirst() {
        Check.about("THE ROW has only its first n bytes: n.");
        for (int n : new int[] {1000, 999, 981, 980, 257, 256, 255, 20, 1, 0}) {
            ScriptDesk desk = full();
            Check.same("end " + n, desk.end(n), n);
            Check.same("row of " + n, State.row(desk), State.row(Scripts.fed(counting(n))));
            Check.same("stack behind " + n, Scripts.stack(desk), "05");
            State.answers("end again " + n, n, desk, () -> desk.end(n));
            State.refused("what is cut is gone " + n, ARGUMENT, desk, () -> desk.end(n + 1));
        }
    }

    private static void endRefuses() {
        Check.about("IllegalArgumentException if there are not so many, or n is below 0.");
        for (int n : new int[] {31, 32, 50, 1000, Integer.MAX_VALUE, -1, -30, Integer.MIN_VALUE}) {
            ScriptDesk desk = worked();
            State.refused("end " + n, ARGUMENT, desk, () -> desk.end(n));
            State.answers("end 30", 30, desk, () -> desk.end(30));
        }
        ScriptDesk desk = full();
        State.refused("end 1001", ARGUMENT, desk, () -> desk.end(1001));
        State.answers("end 1000", 1000, desk, () -> desk.end(1000));
    }

    private static void runTakesTwoScripts() {
        Check.about("THE ROW [..] is two scripts, the first of n bytes");
        // FROMALT fails where the other stack is a new one: behind TOALT, in another script.
        int[] due = {2, 2, 0, 0, 0, 2};
        for (int n = 0; n < due.length; n++) {
            ScriptDesk desk = Scripts.fed(Scripts.bytes("1 TOALT DEPTH NOP FROMALT"));
            Check.same("run " + n, desk.run(n), due[n]);
        }
        ScriptDesk none = new ScriptDesk();
        Check.same("two of no bytes", none.run(0), 1);
        ScriptDesk whole = Scripts.fed(Scripts.bytes("1*1000"));
        Check.same("1000 bytes, all in the first", whole.run(1000), 0);
        Scripts.feed(whole, Scripts.bytes("x" + "01".repeat(255) + " DROP x" + "02".repeat(255) + " DROP x"
            + "03".repeat(255) + " DROP x" + "04".repeat(219) + " DROP 1*4"));
        Check.same("1000 bytes", State.length(whole), 1000);
        Check.same("and the last of them in the second", whole.run(999), 2);
        Check.same("all are run", whole.depth(), 4);
    }

    private static void runBeginsOnAnEmptyStack() {
        Check.about("they run on an empty stack");
        ScriptDesk desk = Scripts.ran("1 2", "3");
        Check.same("DEPTH", Scripts.run(desk, "DEPTH", ""), 1);
        Check.same("tells none", Scripts.stack(desk), "-");
        Check.same("DROP fails", Scripts.run(desk, "DROP", "1"), 0);
        Check.same("behind the failure", Scripts.run(desk, "4", "DEPTH"), 2);
        Check.same("the second on the first one's", Scripts.stack(desk), "04 01");
        Check.same("DROP of the first one's", Scripts.run(desk, "4 5", "DROP"), 2);
        Check.same("leaves", Scripts.stack(desk), "04");
        Check.same("200 behind 200", Scripts.run(Scripts.ran("1*200", ""), "2*200", ""), 2);
    }

    private static void runEmptiesTheRow() {
        Check.about("THE ROW, which is empty then");
        String[] scripts = {"1", "0", "NOP", "RETURN", "#4c", "1 IF", "1*201"};
        for (String script : scripts) {
            ScriptDesk first = Scripts.ran(script, "1");
            Check.same("behind " + script, State.row(first), State.row(new ScriptDesk()));
            ScriptDesk second = Scripts.ran("1", script);
            Check.same("behind a second " + script, State.row(second), State.row(new ScriptDesk()));
        }
        ScriptDesk desk = Scripts.fed(new byte[1000]);
        Check.same("1000 bytes fail", desk.run(500), 0);
        Check.same("and there is room again", desk.feed(1, 2, 3, 4, 5), 20);
    }

    private static void runKeepsTheStackOfAFailure() {
        Check.about("0 if one fails (the stack stays as it was before the call)");
        ScriptDesk never = new ScriptDesk();
        Check.same("a failure first of all", Scripts.run(never, "1 2", "RETURN"), 0);
        Check.same("leaves none", never.depth(), 0);
        ScriptDesk desk = Scripts.ran("x0102030405 0", "7");
        String[][] pairs = {{"RETURN", "1"}, {"1", "RETURN"}, {"1 2 3 4 5", "DROP ADD TOALT RETURN"},
            {"", "RETURN"}, {"RETURN", ""}, {"1*60", "DROP*61"}};
        for (String[] pair : pairs) {
            Check.same("run [" + pair[0] + "] [" + pair[1] + "]", Scripts.run(desk, pair[0], pair[1]), 0);
            Check.same("stack behind it", Scripts.stack(desk), "0102030405 - 07");
        }
        Check.same("a run that ends", Scripts.run(desk, "", ""), 1);
        Check.same("has its own", desk.depth(), 0);
        Check.same("a failure behind it", Scripts.run(desk, "1", "RETURN"), 0);
        Check.same("does not bring the older one back", desk.depth(), 0);
    }

    private static void runTellsTrueFromNot() {
        Check.about("else 1, 2 if something true is on top.");
        tops(1, "0", "x00", "x80", "x0000", "x0080", "x00000080", "x0000000080", "x" + "00".repeat(75));
        tops(1, "x" + "00".repeat(254) + "80", "x" + "00".repeat(255), "1 NOT", "1 1 CHECKSIG");
        tops(2, "1", "-1", "x01", "x81", "x7f", "xff", "x0001", "x8000", "x8080", "x0081", "x0100");
        tops(2, "x0000000001", "x8000000000", "x0000008000", "x" + "00".repeat(254) + "40", "0 NOT");
        tops(2, "x01" + "00".repeat(254), "x80" + "00".repeat(254), "x" + "00".repeat(254) + "81");
        Check.same("nothing on top", Scripts.run(new ScriptDesk(), "1", "DROP"), 1);
    }

    private static void tops(int due, String... tops) {
        for (String top : tops) {
            Check.same(top, Scripts.run(new ScriptDesk(), top, ""), due);
            Check.same(top + " above a true one", Scripts.run(new ScriptDesk(), "1", top), due);
            Check.same(top + " above a false one", Scripts.run(new ScriptDesk(), "0", top), due);
        }
    }

    private static void runRefuses() {
        Check.about("IllegalArgumentException if n is below 0 or above what THE ROW has.");
        for (int n : new int[] {-1, -30, Integer.MIN_VALUE, 31, 32, 1000, Integer.MAX_VALUE}) {
            ScriptDesk desk = worked();
            State.refused("run " + n, ARGUMENT, desk, () -> desk.run(n));
            Check.same("run 30 then", desk.run(30), 0);
        }
        for (int n : new int[] {0, 3}) {
            ScriptDesk desk = Scripts.fed(Scripts.bytes("1 2 3"));
            State.refused("run 4 of 3", ARGUMENT, desk, () -> desk.run(4));
            Check.same("run " + n + " of 3", desk.run(n), 2);
            Check.same("stack", Scripts.stack(desk), "01 02 03");
            State.refused("run 1 of none", ARGUMENT, desk, () -> desk.run(1));
        }
        ScriptDesk desk = full();
        State.refused("run 1001", ARGUMENT, desk, () -> desk.run(1001));
    }

    private static void depthCounts() {
        Check.about("How many THINGS there are on the stack.");
        Check.same("none left", Scripts.ran("1", "DROP").depth(), 0);
        for (int many : new int[] {1, 2, 127, 128, 199, 200}) {
            Check.same("of " + many, Scripts.ran("0*" + many, "").depth(), many);
            Check.same("of " + many + " by the second", Scripts.ran("", "1*" + many).depth(), many);
        }
        ScriptDesk desk = worked();
        State.answers("three", 3, desk, desk::depth);
        Check.same("without the other stack", Scripts.ran("1 2 3 TOALT", "TOALT").depth(), 1);
    }

    private static void sizeOfThings() {
        Check.about("How many bytes the THING k from the top (from 0) has.");
        ScriptDesk desk = worked();
        State.answers("the top", 1, desk, () -> desk.size(0));
        State.answers("of no bytes", 0, desk, () -> desk.size(1));
        State.answers("the lowest", 5, desk, () -> desk.size(2));
        for (int bytes : new int[] {1, 75, 76, 127, 128, 254, 255}) {
            Check.same("of " + bytes, Scripts.ran("x" + "09".repeat(bytes), "").size(0), bytes);
        }
        Check.same("the lowest of 200", Scripts.ran("x0102 1*199", "").size(199), 2);
    }

    private static void sizeRefuses() {
        Check.about("size: IndexOutOfBoundsException if there is none.");
        for (int k : new int[] {3, 4, 200, Integer.MAX_VALUE, -1, -3, Integer.MIN_VALUE}) {
            ScriptDesk desk = worked();
            State.refused("size " + k, INDEX, desk, () -> desk.size(k));
        }
        ScriptDesk most = Scripts.ran("1*200", "");
        Check.refused("size 200 of 200", INDEX, () -> most.size(200));
        ScriptDesk less = Scripts.ran("1 2 3", "");
        Scripts.run(less, "4", "");
        State.refused("a THING of an older run", INDEX, less, () -> less.size(1));
        ScriptDesk dropped = Scripts.ran("1 2", "DROP");
        State.refused("a THING that was dropped", INDEX, dropped, () -> dropped.size(1));
    }

    private static void atBytes() {
        Check.about("Its byte i (0 to 255).");
        ScriptDesk desk = Scripts.ran("x00017f8081ff", "x05 x0908");
        int[] due = {0, 1, 127, 128, 129, 255};
        for (int i = 0; i < due.length; i++) {
            int place = i;
            State.answers("byte " + i, due[i], desk, () -> desk.at(2, place));
        }
        Check.same("of the THING between", desk.at(1, 0), 5);
        Check.same("first of the top", desk.at(0, 0), 9);
        Check.same("last of the top", desk.at(0, 1), 8);
        Check.same("byte 254 of 255", Scripts.ran("x" + "00".repeat(254) + "fe", "").at(0, 254), 254);
    }

    private static void atRefuses() {
        Check.about("IndexOutOfBoundsException if there is no such THING, or byte.");
        for (int k : new int[] {3, 4, 200, Integer.MAX_VALUE, -1, Integer.MIN_VALUE}) {
            ScriptDesk desk = worked();
            State.refused("THING " + k, INDEX, desk, () -> desk.at(k, 0));
        }
        for (int i : new int[] {5, 6, 255, Integer.MAX_VALUE, -1, -5, Integer.MIN_VALUE}) {
            ScriptDesk desk = worked();
            State.refused("byte " + i, INDEX, desk, () -> desk.at(2, i));
        }
        ScriptDesk desk = worked();
        State.refused("byte 1 of one", INDEX, desk, () -> desk.at(0, 1));
        State.refused("byte 0 of none", INDEX, desk, () -> desk.at(1, 0));
        State.refused("neither", INDEX, desk, () -> desk.at(3, 5));
        State.refused("neither, below 0", INDEX, desk, () -> desk.at(-1, -1));
        ScriptDesk longest = Scripts.ran("x" + "01".repeat(255), "");
        Check.refused("byte 255 of 255", INDEX, () -> longest.at(0, 255));
    }

    private static void numberOfThings() {
        Check.about("The THING k from the top as a number.");
        String[] things = {"0", "x00", "x80", "x0080", "x000080", "x00000080", "x00000000", "x7f", "xff", "x8000",
            "x8080", "xff7f", "xffff", "x008000", "x008080", "xffff7f", "xffffff", "x00008000", "x00008080",
            "xffffff7f", "xffffffff", "xfeffff7f", "x01000000", "x01000080"};
        int[] due = {0, 0, 0, 0, 0, 0, 0, 127, -127, 128, -128, 32767, -32767, 32768, -32768, 8388607, -8388607,
            8388608, -8388608, 2147483647, -2147483647, 2147483646, 1, -1};
        for (int i = 0; i < things.length; i++) {
            ScriptDesk desk = Scripts.ran(things[i], "3");
            State.answers(things[i], due[i], desk, () -> desk.number(1));
            State.answers("above " + things[i], 3, desk, () -> desk.number(0));
        }
    }

    private static void numberRefusesNone() {
        Check.about("number: IndexOutOfBoundsException if there is none");
        for (int k : new int[] {3, 4, 200, Integer.MAX_VALUE, -1, -3, Integer.MIN_VALUE}) {
            ScriptDesk desk = worked();
            State.refused("number " + k, INDEX, desk, () -> desk.number(k));
        }
        ScriptDesk desk = new ScriptDesk();
        State.refused("number 0 of none", INDEX, desk, () -> desk.number(0));
    }

    private static void numberRefusesFiveBytes() {
        Check.about("ArithmeticException if it has more than 4 bytes.");
        String[] things = {"x0000000000", "x0100000000", "x0000000080", "xffffffffff", "x" + "00".repeat(6),
            "x" + "01".repeat(75), "x" + "00".repeat(255), "xffffff7f 1ADD", "xffffffff 1SUB"};
        for (String thing : things) {
            ScriptDesk desk = Scripts.ran(thing, "3");
            State.refused(thing, ARITHMETIC, desk, () -> desk.number(1));
            State.answers("above " + thing, 3, desk, () -> desk.number(0));
        }
    }

    private static void sigsCounts() {
        Check.about("CHECKSIG and its VERIFY 1, CHECKMULTISIG and its 20");
        for (int code = 77; code < 256; code++) {
            int due = code == 172 || code == 173 ? 1 : code == 174 || code == 175 ? 20 : 0;
            ScriptDesk desk = Scripts.fed(new byte[] {(byte) code, 0, (byte) code});
            Check.same("code " + code, desk.sigs(3), 2 * due);
        }
        // The keys before it do not matter, nor whether it is reached, nor how many codes there are.
        sigs("1 0 0 CHECKMULTISIG", 20);
        sigs("16 CHECKMULTISIGVERIFY", 20);
        sigs("RETURN CHECKSIG", 1);
        sigs("0 IF CHECKSIG ELSE CHECKSIG", 2);
        sigs("ENDIF CHECKSIG", 1);
        sigs("NOP*201 CHECKSIG*202", 202);
        sigs("CHECKMULTISIGVERIFY*1000", 20000);
    }

    private static void sigs(String script, int due) {
        byte[] bytes = Scripts.bytes(script);
        ScriptDesk desk = Scripts.fed(bytes);
        State.answers("sigs of " + script, due, desk, () -> desk.sigs(bytes.length));
    }

    private static void sigsOfTheFirst() {
        Check.about("How many SIGS the first n bytes of THE ROW count");
        ScriptDesk desk = Scripts.fed(Scripts.bytes("CHECKSIG #01ae CHECKMULTISIG #4c01ac CHECKSIGVERIFY"));
        int[] due = {0, 1, 1, 1, 21, 21, 21, 21, 22};
        for (int n = 0; n < due.length; n++) {
            int first = n;
            State.answers("the first " + n, due[n], desk, () -> desk.sigs(first));
        }
        ScriptDesk cut = Scripts.fed(Scripts.bytes("CHECKSIG CHECKSIG"));
        cut.end(1);
        Check.same("not what end cut off", cut.sigs(1), 1);
        State.refused("which is no more there", ARGUMENT, cut, () -> cut.sigs(2));
    }

    private static void sigsBeyond() {
        Check.about("from the first push that goes beyond on nothing");
        for (int bytes : new int[] {1, 2, 74, 75}) {
            String push = String.format("CHECKSIG #%02x", bytes);
            sigs(push + " CHECKSIG*" + (bytes - 1), 1);
            sigs(push + " CHECKSIG*" + bytes, 1);
            sigs(push + " CHECKSIG*" + (bytes + 1), 2);
        }
        for (int bytes : new int[] {1, 2, 75, 76, 172, 254, 255}) {
            String push = String.format("CHECKSIG #4c%02x", bytes);
            sigs(push + " CHECKSIG*" + (bytes - 1), 1);
            sigs(push + " CHECKSIG*" + bytes, 1);
            sigs(push + " CHECKSIG*" + (bytes + 1), 2);
        }
        sigs("CHECKSIG #4c", 1);
        sigs("CHECKSIG #4c00", 1);
        sigs("#4c00 CHECKSIG", 1);
        sigs("#00 CHECKSIG", 1);
        // Beyond the first n bytes, though THE ROW has more.
        ScriptDesk desk = Scripts.fed(Scripts.bytes("CHECKSIG #03acacac CHECKSIG"));
        for (int n = 1; n <= 5; n++) {
            Check.same("first " + n, desk.sigs(n), 1);
        }
        Check.same("first 6", desk.sigs(6), 2);
    }

    private static void sigsRefuses() {
        Check.about("sigs: IllegalArgumentException as by end.");
        for (int n : new int[] {31, 32, 50, 1000, Integer.MAX_VALUE, -1, -30, Integer.MIN_VALUE}) {
            ScriptDesk desk = worked();
            State.refused("sigs " + n, ARGUMENT, desk, () -> desk.sigs(n));
            State.answers("sigs 30", 1, desk, () -> desk.sigs(30));
            State.answers("sigs 0", 0, desk, () -> desk.sigs(0));
        }
        ScriptDesk desk = full();
        State.refused("sigs 1001", ARGUMENT, desk, () -> desk.sigs(1001));
    }

    private static void hashWords() {
        Check.about("Word k (four bytes, the first one lowest) of a sum of THE ROW (which stays; so for sigs)");
        int[][] due = {
            {0x0b3285f9, 0x3e29fa82, 0x30d2891d, 0x0ecb423b, 0x2a3c35e4, 0x13999f44, 0x2d037b38, 0x57b98a0c},
            {0x7bccc597, 0xdd26b764, 0x3d0a0bdb, 0xf9510f81, 0x2cead086, 0x0039376b, 0x11ab5ffb, 0xbb6e556a},
            {0x3a832cc7, 0xb4484bae, 0x7f0f15e4, 0x8f2efd0d, 0xa78b0a69},
        };
        for (int how = 0; how < due.length; how++) {
            int kind = how;
            for (int k = 0; k < due[how].length; k++) {
                int word = k;
                ScriptDesk desk = worked();
                State.answers("hash " + how + ", " + k, due[how][k], desk, () -> desk.hash(kind, word));
            }
        }
    }

    /** Lengths at which one block more begins, and the ends; these sums are Python's and OpenSSL's. */
    private static void hashOfEveryKind() {
        Check.about("how 0: SHA-256, 1: SHA-256 of it, 2: RIPEMD-160 (k to 4).");
        hash(0, 0x42c4b0e3, 0x55b85278, 0xe2e0f65d, 0x56944c5d, 0xa585119c, 0x318d25b2);
        hash(1, 0x2f12f54b, 0x9a458577, 0xdccf129c, 0x705f425b, 0x50ba91f2, 0xb3e1c9f5);
        hash(55, 0xa057fa16, 0xfeab9f6a, 0xbd3e4342, 0x51480dc4, 0x03e672d5, 0x4b217191);
        hash(56, 0xe5447bc3, 0xc5732089, 0x7ee91789, 0x63d2a83e, 0x62c47855, 0x1f079c53);
        hash(63, 0x2d99babb, 0xa3365eb7, 0xc5e3cc0f, 0x8142688c, 0xf296e249, 0x21f7cbff);
        hash(64, 0x3346bd66, 0x0b1ec707, 0x219303f6, 0xa1cfa9b6, 0xda13b979, 0x0d7d3615);
        hash(119, 0x7b30eda3, 0x664b0f95, 0x30eed00e, 0x7db43902, 0x9beb2eeb, 0x5065da42);
        hash(120, 0xd9153b8e, 0x209de926, 0x98bba244, 0x2f22d2a9, 0xd68f88e6, 0x48ed4666);
        hash(999, 0x4c1402c0, 0x188d3a70, 0x7eeb104e, 0x598e481d, 0x25cb7d36, 0x83156386);
        hash(1000, 0x6b56d339, 0x511a9272, 0x482a856e, 0xd0ad7c4b, 0xd7768aa7, 0x9eb1dfbe);
    }

    private static void hash(int length, int... due) {
        ScriptDesk desk = Scripts.fed(counting(length));
        for (int how = 0; how < 3; how++) {
            Check.same("first word, " + how + " of " + length, desk.hash(how, 0), due[2 * how]);
            Check.same("last word, " + how + " of " + length, desk.hash(how, how == 2 ? 4 : 7), due[2 * how + 1]);
        }
    }

    private static void hashRefuses() {
        Check.about("IllegalArgumentException for another k or how.");
        for (int how : new int[] {-1, 3, 4, 256, Integer.MAX_VALUE, Integer.MIN_VALUE}) {
            ScriptDesk desk = worked();
            State.refused("how " + how, ARGUMENT, desk, () -> desk.hash(how, 0));
        }
        for (int how = 0; how < 3; how++) {
            int kind = how;
            int last = how == 2 ? 4 : 7;
            for (int k : new int[] {last + 1, last + 2, 8, 32, Integer.MAX_VALUE, -1, Integer.MIN_VALUE}) {
                ScriptDesk desk = worked();
                State.refused("hash " + how + ", " + k, ARGUMENT, desk, () -> desk.hash(kind, k));
            }
        }
        ScriptDesk desk = worked();
        State.refused("neither", ARGUMENT, desk, () -> desk.hash(3, 8));
    }
}
