import java.util.Arrays;

/**
 * Scripts as Bitcoin's before SegWit, without a transaction: two of them, one behind the other on
 * one stack; and the sums that they take.
 */
public final class ScriptDesk {
    private static final int ROW_LIMIT = 1000;
    private static final int FEED_BYTES = 20;

    private static final int FAILED = 0;
    private static final int ENDED = 1;
    private static final int ENDED_TRUE = 2;

    private static final int HOW_SHA256 = 0;
    private static final int HOW_SHA256_TWICE = 1;
    private static final int HOW_RIPEMD160 = 2;

    private static final int SIGS_OF_MANY = 20;

    private final byte[] row;
    private int length;
    private final Sum sha256;
    private final Sum ripemd160;
    private final Machine machine;
    private Stack stack;

    public ScriptDesk() {
        row = new byte[ROW_LIMIT];
        length = 0;
        sha256 = new Sha256();
        ripemd160 = new Ripemd160();
        machine = new Machine(sha256, ripemd160);
        stack = new Stack();
    }

    public int feed(int a, int b, int c, int d, int e) throws IllegalStateException {
        if (length > ROW_LIMIT - FEED_BYTES) {
            throw new IllegalStateException();
        }
        append(a);
        append(b);
        append(c);
        append(d);
        append(e);
        return length;
    }

    public int end(int n) throws IllegalArgumentException {
        if (!rowHas(n)) {
            throw new IllegalArgumentException();
        }
        length = n;
        return n;
    }

    public int run(int n) throws IllegalArgumentException {
        if (!rowHas(n)) {
            throw new IllegalArgumentException();
        }
        int whole = length;
        length = 0;
        machine.clear();
        if (!machine.play(row, 0, n) || !machine.play(row, n, whole)) {
            return FAILED;
        }
        stack = machine.handOver(stack);
        return stack.peek(0).isTrue() ? ENDED_TRUE : ENDED;
    }

    public int depth() {
        return stack.count();
    }

    public int size(int k) throws IndexOutOfBoundsException {
        if (!stack.holds(k)) {
            throw new IndexOutOfBoundsException();
        }
        return stack.peek(k).length();
    }

    public int at(int k, int i) throws IndexOutOfBoundsException {
        if (!stack.holds(k) || i < 0 || i >= stack.peek(k).length()) {
            throw new IndexOutOfBoundsException();
        }
        return stack.peek(k).byteAt(i);
    }

    public int number(int k) throws IndexOutOfBoundsException, ArithmeticException {
        if (!stack.holds(k)) {
            throw new IndexOutOfBoundsException();
        }
        if (!stack.peek(k).isNumber()) {
            throw new ArithmeticException();
        }
        return (int) stack.peek(k).toNumber();
    }

    public int sigs(int n) throws IllegalArgumentException {
        if (!rowHas(n)) {
            throw new IllegalArgumentException();
        }
        int counted = 0;
        for (int place = 0; place < n; place++) {
            counted += sigsOf(row[place] & 255);
            // A push that goes beyond ends the loop, and counts nothing itself.
            place += Code.carried(row, place, n);
        }
        return counted;
    }

    public int hash(int how, int k) throws IllegalArgumentException {
        if (how < HOW_SHA256 || how > HOW_RIPEMD160) {
            throw new IllegalArgumentException();
        }
        if (k < 0 || k > (how == HOW_RIPEMD160 ? 4 : 7)) {
            throw new IllegalArgumentException();
        }
        return sumOfRow(how).word(k);
    }

    private boolean rowHas(int n) {
        return n >= 0 && n <= length;
    }

    private void append(int word) {
        for (int shift = 24; shift >= 0; shift -= 8) {
            row[length] = (byte) (word >> shift);
            length++;
        }
    }

    private static int sigsOf(int code) {
        return switch (code) {
            case Code.CHECKSIG, Code.CHECKSIGVERIFY -> 1;
            case Code.CHECKMULTISIG, Code.CHECKMULTISIGVERIFY -> SIGS_OF_MANY;
            default -> 0;
        };
    }

    private Thing sumOfRow(int how) {
        if (how == HOW_RIPEMD160) {
            return ripemd160.of(row, length);
        }
        Thing once = sha256.of(row, length);
        return how == HOW_SHA256_TWICE ? sha256.of(once.bytes, once.bytes.length) : once;
    }

    /** The codes that a script may hold, and what their numbers alone tell. */
    private static final class Code {
        static final int PUSH_BY_LENGTH = 76;
        static final int MINUS_ONE = 79;
        static final int ONE = 81;
        static final int SIXTEEN = 96;
        static final int NOP = 97;
        static final int IF = 99;
        static final int NOTIF = 100;
        static final int ELSE = 103;
        static final int ENDIF = 104;
        static final int VERIFY = 105;
        static final int TO_OTHER = 107;
        static final int FROM_OTHER = 108;
        static final int DROP_TWO = 109;
        static final int DUP_TWO = 110;
        static final int IFDUP = 115;
        static final int DEPTH = 116;
        static final int DROP = 117;
        static final int DUP = 118;
        static final int NIP = 119;
        static final int OVER = 120;
        static final int PICK = 121;
        static final int ROLL = 122;
        static final int ROT = 123;
        static final int SWAP = 124;
        static final int TUCK = 125;
        static final int SIZE = 130;
        static final int EQUAL = 135;
        static final int EQUALVERIFY = 136;
        static final int ADD_ONE = 139;
        static final int SUB_ONE = 140;
        static final int NEGATE = 143;
        static final int ABS = 144;
        static final int NOT = 145;
        static final int NOT_ZERO = 146;
        static final int ADD = 147;
        static final int SUB = 148;
        static final int BOOLAND = 154;
        static final int BOOLOR = 155;
        static final int NUMEQUAL = 156;
        static final int NUMEQUALVERIFY = 157;
        static final int NUMNOTEQUAL = 158;
        static final int LESSTHAN = 159;
        static final int GREATERTHAN = 160;
        static final int LESSTHANOREQUAL = 161;
        static final int GREATERTHANOREQUAL = 162;
        static final int MIN = 163;
        static final int MAX = 164;
        static final int WITHIN = 165;
        static final int RIPEMD160 = 166;
        static final int SHA256 = 168;
        static final int HASH160 = 169;
        static final int HASH256 = 170;
        static final int CHECKSIG = 172;
        static final int CHECKSIGVERIFY = 173;
        static final int CHECKMULTISIG = 174;
        static final int CHECKMULTISIGVERIFY = 175;

        /**
         * How many bytes behind the code at a place belong to it. Whether they are all there is
         * the caller's to see; a length that is missing counts as one byte, so it is beyond too.
         */
        static int carried(byte[] row, int place, int to) {
            int code = row[place] & 255;
            if (code > PUSH_BY_LENGTH) {
                return 0;
            }
            if (code < PUSH_BY_LENGTH) {
                return code;
            }
            return place + 1 < to ? 1 + (row[place + 1] & 255) : 1;
        }

        static boolean isPush(int code) {
            return code <= PUSH_BY_LENGTH;
        }

        static boolean isBranch(int code) {
            return code == IF || code == NOTIF || code == ELSE || code == ENDIF;
        }

        /** How many THINGS must be there for a code that only arranges them. */
        static int needs(int code) {
            return switch (code) {
                case NOP, FROM_OTHER, DEPTH -> 0;
                case DROP_TWO, DUP_TWO, NIP, OVER, PICK, ROLL, SWAP, TUCK -> 2;
                case ROT -> 3;
                default -> 1;
            };
        }
    }

    /** A row of bytes on a stack; it never changes, so that stacks may share it. */
    private static final class Thing {
        private static final int NUMBER_BYTES = 4;
        private static final int SIGN = 128;

        private final byte[] bytes;

        Thing(byte[] bytes) {
            this.bytes = bytes;
        }

        static Thing ofNumber(long value) {
            long rest = Math.abs(value);
            byte[] bytes = new byte[bytesFor(rest)];
            for (int i = 0; i < bytes.length; i++) {
                bytes[i] = (byte) (rest >> 8 * i);
            }
            if (value < 0 && bytes.length > 0) {
                bytes[bytes.length - 1] |= (byte) SIGN;
            }
            return new Thing(bytes);
        }

        /** The sign has the highest bit for itself, so eight bits of value take a second byte. */
        private static int bytesFor(long value) {
            return value == 0 ? 0 : (64 - Long.numberOfLeadingZeros(value)) / 8 + 1;
        }

        int length() {
            return bytes.length;
        }

        int byteAt(int i) {
            return i >= 0 && i < bytes.length ? bytes[i] & 255 : 0;
        }

        /** Four bytes from 4k on, the first one lowest. */
        int word(int k) {
            int word = 0;
            for (int i = 0; i < 4; i++) {
                word |= byteAt(4 * k + i) << 8 * i;
            }
            return word;
        }

        boolean isTrue() {
            for (int i = 0; i < bytes.length; i++) {
                boolean last = i == bytes.length - 1;
                // A zero with a sign is no more true than one without.
                if (bytes[i] != 0 && !(last && byteAt(i) == SIGN)) {
                    return true;
                }
            }
            return false;
        }

        boolean isNumber() {
            return bytes.length <= NUMBER_BYTES;
        }

        long toNumber() {
            int top = bytes.length - 1;
            long value = 0;
            for (int i = 0; i < top; i++) {
                value |= (long) byteAt(i) << 8 * i;
            }
            if (top >= 0) {
                value |= (long) (byteAt(top) & (SIGN - 1)) << 8 * top;
            }
            return (byteAt(top) & SIGN) != 0 ? -value : value;
        }

        boolean same(Thing other) {
            if (bytes.length != other.bytes.length) {
                return false;
            }
            for (int i = 0; i < bytes.length; i++) {
                if (bytes[i] != other.bytes[i]) {
                    return false;
                }
            }
            return true;
        }
    }

    /** THINGS one above the other; places count from the top, which is 0. */
    private static final class Stack {
        static final int LIMIT = 200;

        private final Thing[] things;
        private final Thing none;
        private int count;

        Stack() {
            things = new Thing[LIMIT];
            none = new Thing(new byte[0]);
            for (int i = 0; i < LIMIT; i++) {
                things[i] = none;
            }
            count = 0;
        }

        void clear() {
            count = 0;
        }

        int count() {
            return count;
        }

        boolean holds(int place) {
            return place >= 0 && place < count;
        }

        /** The THING at a place; an empty one, which is false, where there is none. */
        Thing peek(int place) {
            return holds(place) ? things[count - 1 - place] : none;
        }

        /** False if there is no room. */
        boolean push(Thing thing) {
            if (count >= LIMIT) {
                return false;
            }
            things[count] = thing;
            count++;
            return true;
        }

        Thing pop() {
            if (count == 0) {
                return none;
            }
            count--;
            return things[count];
        }

        Thing take(int place) {
            Thing taken = peek(place);
            if (holds(place)) {
                for (int i = count - 1 - place; i < count - 1; i++) {
                    things[i] = things[i + 1];
                }
                count--;
            }
            return taken;
        }

        /** False if there are not so many. */
        boolean drop(int many) {
            if (many < 0 || many > count) {
                return false;
            }
            count -= many;
            return true;
        }

        boolean holdsNumbers(int many) {
            if (count < many) {
                return false;
            }
            for (int place = 0; place < many; place++) {
                if (!peek(place).isNumber()) {
                    return false;
                }
            }
            return true;
        }
    }

    /**
     * The IFs that are open. The lowest that is not taken decides for all above it, and can turn
     * only when none is above it: so its place is all there is to know.
     */
    private static final class Branches {
        private static final int NONE = -1;

        private int open;
        private int lowestOff;

        Branches() {
            open = 0;
            lowestOff = NONE;
        }

        void clear() {
            open = 0;
            lowestOff = NONE;
        }

        boolean anyOpen() {
            return open > 0;
        }

        boolean taken() {
            return lowestOff == NONE;
        }

        void enter(boolean on) {
            if (!on && lowestOff == NONE) {
                lowestOff = open;
            }
            open++;
        }

        void turn() {
            if (lowestOff == NONE) {
                lowestOff = open - 1;
            } else if (lowestOff == open - 1) {
                lowestOff = NONE;
            }
        }

        void leave() {
            open--;
            if (lowestOff == open) {
                lowestOff = NONE;
            }
        }
    }

    /** Plays one script at a time. What answers a boolean here answers false if the script fails. */
    private static final class Machine {
        private static final int CODE_LIMIT = 201;
        private static final int KEY_LIMIT = 20;

        private final Sum sha256;
        private final Sum ripemd160;
        private final Stack other;
        private final Branches branches;
        private final Thing yes;
        private final Thing no;
        private Stack main;
        private int counted;

        Machine(Sum sha256, Sum ripemd160) {
            this.sha256 = sha256;
            this.ripemd160 = ripemd160;
            other = new Stack();
            branches = new Branches();
            yes = Thing.ofNumber(1);
            no = Thing.ofNumber(0);
            main = new Stack();
            counted = 0;
        }

        void clear() {
            main.clear();
        }

        /** What the scripts left, against a stack that is no longer asked for. */
        Stack handOver(Stack spent) {
            Stack left = main;
            main = spent;
            return left;
        }

        boolean play(byte[] row, int from, int to) {
            other.clear();
            branches.clear();
            counted = 0;
            for (int place = from; place < to; place++) {
                int code = row[place] & 255;
                int carried = Code.carried(row, place, to);
                if (carried >= to - place || !count(code > Code.SIXTEEN ? 1 : 0)) {
                    return false;
                }
                if (Code.isBranch(code)) {
                    if (!branch(code)) {
                        return false;
                    }
                } else if (branches.taken()) {
                    boolean well = Code.isPush(code) ? pushFrom(row, place, carried) : perform(code);
                    if (!well || main.count() + other.count() > Stack.LIMIT) {
                        return false;
                    }
                }
                place += carried;
            }
            return !branches.anyOpen();
        }

        private boolean count(int more) {
            counted += more;
            return counted <= CODE_LIMIT;
        }

        private boolean branch(int code) {
            if (code == Code.IF || code == Code.NOTIF) {
                return enter(code == Code.IF);
            }
            if (!branches.anyOpen()) {
                return false;
            }
            if (code == Code.ELSE) {
                branches.turn();
            } else {
                branches.leave();
            }
            return true;
        }

        private boolean enter(boolean wanted) {
            // An IF inside one that is not taken asks nothing, and takes nothing from the stack.
            if (!branches.taken()) {
                branches.enter(false);
                return true;
            }
            if (!main.holds(0)) {
                return false;
            }
            branches.enter(main.pop().isTrue() == wanted);
            return true;
        }

        private boolean pushFrom(byte[] row, int place, int carried) {
            int first = (row[place] & 255) == Code.PUSH_BY_LENGTH ? place + 2 : place + 1;
            return main.push(new Thing(Arrays.copyOfRange(row, first, place + 1 + carried)));
        }

        private boolean perform(int code) {
            if (code <= Code.SIXTEEN) {
                return constant(code);
            }
            if (code <= Code.SIZE) {
                return arrange(code);
            }
            if (code <= Code.EQUALVERIFY) {
                return compare(code);
            }
            if (code <= Code.NOT_ZERO) {
                return changeNumber(code);
            }
            if (code <= Code.NUMNOTEQUAL) {
                return joinNumbers(code);
            }
            if (code <= Code.MAX) {
                return orderNumbers(code);
            }
            if (code == Code.WITHIN) {
                return within();
            }
            if (code <= Code.HASH256) {
                return sum(code);
            }
            return checkSignatures(code);
        }

        private boolean constant(int code) {
            if (code == Code.MINUS_ONE) {
                return pushNumber(-1);
            }
            return code >= Code.ONE && pushNumber(code - Code.ONE + 1);
        }

        private boolean arrange(int code) {
            if (main.count() < Code.needs(code)) {
                return false;
            }
            return switch (code) {
                case Code.NOP -> true;
                case Code.VERIFY -> main.pop().isTrue();
                case Code.TO_OTHER -> other.push(main.pop());
                case Code.FROM_OTHER -> other.holds(0) && main.push(other.pop());
                case Code.DROP_TWO -> main.drop(2);
                case Code.DUP_TWO -> main.push(main.peek(1)) && main.push(main.peek(1));
                case Code.IFDUP -> !main.peek(0).isTrue() || main.push(main.peek(0));
                case Code.DEPTH -> pushNumber(main.count());
                case Code.DROP -> main.drop(1);
                case Code.DUP -> main.push(main.peek(0));
                case Code.NIP -> nip();
                case Code.OVER -> main.push(main.peek(1));
                case Code.PICK, Code.ROLL -> fetch(code == Code.ROLL);
                case Code.ROT -> main.push(main.take(2));
                case Code.SWAP -> main.push(main.take(1));
                case Code.TUCK -> tuck();
                case Code.SIZE -> pushNumber(main.peek(0).length());
                default -> false;
            };
        }

        private boolean nip() {
            main.take(1);
            return true;
        }

        private boolean fetch(boolean away) {
            int place = countAt(0, main.count() - 2);
            if (place < 0) {
                return false;
            }
            main.pop();
            return main.push(away ? main.take(place) : main.peek(place));
        }

        private boolean tuck() {
            Thing top = main.peek(0);
            return main.push(main.take(1)) && main.push(top);
        }

        private boolean compare(int code) {
            if (main.count() < 2) {
                return false;
            }
            boolean same = main.pop().same(main.pop());
            return switch (code) {
                case Code.EQUAL -> pushTruth(same);
                case Code.EQUALVERIFY -> same;
                default -> false;
            };
        }

        private boolean changeNumber(int code) {
            if (!main.holdsNumbers(1)) {
                return false;
            }
            long value = main.pop().toNumber();
            return switch (code) {
                case Code.ADD_ONE -> pushNumber(value + 1);
                case Code.SUB_ONE -> pushNumber(value - 1);
                case Code.NEGATE -> pushNumber(-value);
                case Code.ABS -> pushNumber(Math.abs(value));
                case Code.NOT -> pushTruth(value == 0);
                case Code.NOT_ZERO -> pushTruth(value != 0);
                default -> false;
            };
        }

        private boolean joinNumbers(int code) {
            if (!main.holdsNumbers(2)) {
                return false;
            }
            long right = main.pop().toNumber();
            long left = main.pop().toNumber();
            return switch (code) {
                case Code.ADD -> pushNumber(left + right);
                case Code.SUB -> pushNumber(left - right);
                case Code.BOOLAND -> pushTruth(left != 0 && right != 0);
                case Code.BOOLOR -> pushTruth(left != 0 || right != 0);
                case Code.NUMEQUAL -> pushTruth(left == right);
                case Code.NUMEQUALVERIFY -> left == right;
                case Code.NUMNOTEQUAL -> pushTruth(left != right);
                default -> false;
            };
        }

        private boolean orderNumbers(int code) {
            if (!main.holdsNumbers(2)) {
                return false;
            }
            long right = main.pop().toNumber();
            long left = main.pop().toNumber();
            return switch (code) {
                case Code.LESSTHAN -> pushTruth(left < right);
                case Code.GREATERTHAN -> pushTruth(left > right);
                case Code.LESSTHANOREQUAL -> pushTruth(left <= right);
                case Code.GREATERTHANOREQUAL -> pushTruth(left >= right);
                case Code.MIN -> pushNumber(Math.min(left, right));
                case Code.MAX -> pushNumber(Math.max(left, right));
                default -> false;
            };
        }

        private boolean within() {
            if (!main.holdsNumbers(3)) {
                return false;
            }
            long above = main.pop().toNumber();
            long least = main.pop().toNumber();
            long value = main.pop().toNumber();
            return pushTruth(least <= value && value < above);
        }

        private boolean sum(int code) {
            if (!main.holds(0)) {
                return false;
            }
            byte[] bytes = main.pop().bytes;
            if (code == Code.RIPEMD160) {
                return main.push(ripemd160.of(bytes, bytes.length));
            }
            Thing once = sha256.of(bytes, bytes.length);
            return switch (code) {
                case Code.SHA256 -> main.push(once);
                case Code.HASH160 -> main.push(ripemd160.of(once.bytes, once.bytes.length));
                case Code.HASH256 -> main.push(sha256.of(once.bytes, once.bytes.length));
                default -> false;
            };
        }

        private boolean checkSignatures(int code) {
            return switch (code) {
                case Code.CHECKSIG -> main.drop(2) && pushTruth(false);
                case Code.CHECKMULTISIG -> checkMany(false);
                case Code.CHECKMULTISIGVERIFY -> checkMany(true);
                // CHECKSIGVERIFY too: no signature is one.
                default -> false;
            };
        }

        /** As no signature is one, all that are asked for are there only if none is asked for. */
        private boolean checkMany(boolean verify) {
            int keys = countAt(0, KEY_LIMIT);
            if (keys < 0 || !count(keys)) {
                return false;
            }
            int signatures = countAt(keys + 1, keys);
            // Beside keys and signatures: their two numbers, and the one THING more.
            if (signatures < 0 || !main.drop(keys + signatures + 3)) {
                return false;
            }
            boolean met = signatures == 0;
            return verify ? met : pushTruth(met);
        }

        /** The THING at a place as a number from 0 to a limit; -1 if it is none. */
        private int countAt(int place, int limit) {
            if (!main.holds(place) || !main.peek(place).isNumber()) {
                return -1;
            }
            long value = main.peek(place).toNumber();
            return value >= 0 && value <= limit ? (int) value : -1;
        }

        private boolean pushNumber(long value) {
            return main.push(Thing.ofNumber(value));
        }

        private boolean pushTruth(boolean truth) {
            return main.push(truth ? yes : no);
        }
    }

    /** A sum over blocks of 64 bytes, filled up by the mark 128, zeros and the length in bits. */
    private abstract static class Sum {
        private static final int BLOCK_BYTES = 64;
        private static final int BLOCK_WORDS = 16;
        private static final int MARK = 128;

        final int[] state;
        final int[] words;
        private final int[] start;
        private final boolean highFirst;

        Sum(int[] start, int wordCount, boolean highFirst) {
            this.start = start;
            this.highFirst = highFirst;
            state = new int[start.length];
            words = new int[Math.max(wordCount, BLOCK_WORDS)];
        }

        /** Takes the block that words begins with into state. */
        abstract void mix();

        Thing of(byte[] source, int length) {
            System.arraycopy(start, 0, state, 0, state.length);
            int blocks = (length + 8) / BLOCK_BYTES + 1;
            for (int block = 0; block < blocks; block++) {
                load(source, length, block * BLOCK_BYTES);
                if (block == blocks - 1) {
                    // The upper half of the length stays 0: no source is that long.
                    words[highFirst ? 15 : 14] = length * 8;
                }
                mix();
            }
            return result();
        }

        private void load(byte[] source, int length, int from) {
            for (int w = 0; w < BLOCK_WORDS; w++) {
                int word = 0;
                for (int i = 0; i < 4; i++) {
                    word |= filled(source, length, from + 4 * w + i) << shift(i);
                }
                words[w] = word;
            }
        }

        private static int filled(byte[] source, int length, int place) {
            if (place < length && place < source.length) {
                return source[place] & 255;
            }
            return place == length ? MARK : 0;
        }

        private int shift(int byteOfWord) {
            return highFirst ? 24 - 8 * byteOfWord : 8 * byteOfWord;
        }

        private Thing result() {
            byte[] bytes = new byte[4 * state.length];
            for (int i = 0; i < bytes.length; i++) {
                bytes[i] = (byte) (state[i / 4] >> shift(i % 4));
            }
            return new Thing(bytes);
        }
    }

    private static final class Sha256 extends Sum {
        private static final int ROUNDS = 64;
        private static final int[] START = {
            0x6a09e667, 0xbb67ae85, 0x3c6ef372, 0xa54ff53a,
            0x510e527f, 0x9b05688c, 0x1f83d9ab, 0x5be0cd19,
        };
        private static final int[] ADDENDS = {
            0x428a2f98, 0x71374491, 0xb5c0fbcf, 0xe9b5dba5, 0x3956c25b, 0x59f111f1, 0x923f82a4, 0xab1c5ed5,
            0xd807aa98, 0x12835b01, 0x243185be, 0x550c7dc3, 0x72be5d74, 0x80deb1fe, 0x9bdc06a7, 0xc19bf174,
            0xe49b69c1, 0xefbe4786, 0x0fc19dc6, 0x240ca1cc, 0x2de92c6f, 0x4a7484aa, 0x5cb0a9dc, 0x76f988da,
            0x983e5152, 0xa831c66d, 0xb00327c8, 0xbf597fc7, 0xc6e00bf3, 0xd5a79147, 0x06ca6351, 0x14292967,
            0x27b70a85, 0x2e1b2138, 0x4d2c6dfc, 0x53380d13, 0x650a7354, 0x766a0abb, 0x81c2c92e, 0x92722c85,
            0xa2bfe8a1, 0xa81a664b, 0xc24b8b70, 0xc76c51a3, 0xd192e819, 0xd6990624, 0xf40e3585, 0x106aa070,
            0x19a4c116, 0x1e376c08, 0x2748774c, 0x34b0bcb5, 0x391c0cb3, 0x4ed8aa4a, 0x5b9cca4f, 0x682e6ff3,
            0x748f82ee, 0x78a5636f, 0x84c87814, 0x8cc70208, 0x90befffa, 0xa4506ceb, 0xbef9a3f7, 0xc67178f2,
        };

        private final int[] turning;

        Sha256() {
            super(START, ROUNDS, true);
            turning = new int[START.length];
        }

        @Override
        void mix() {
            stretch();
            System.arraycopy(state, 0, turning, 0, state.length);
            for (int i = 0; i < ROUNDS; i++) {
                turn(ADDENDS[i] + words[i]);
            }
            for (int i = 0; i < state.length; i++) {
                state[i] += turning[i];
            }
        }

        private void stretch() {
            for (int i = 16; i < ROUNDS; i++) {
                int far = words[i - 15];
                int near = words[i - 2];
                int first = Integer.rotateRight(far, 7) ^ Integer.rotateRight(far, 18) ^ (far >>> 3);
                int second = Integer.rotateRight(near, 17) ^ Integer.rotateRight(near, 19) ^ (near >>> 10);
                words[i] = words[i - 16] + first + words[i - 7] + second;
            }
        }

        private void turn(int addend) {
            int a = turning[0];
            int e = turning[4];
            int choice = (e & turning[5]) ^ (~e & turning[6]);
            int most = (a & turning[1]) ^ (a & turning[2]) ^ (turning[1] & turning[2]);
            int upper = Integer.rotateRight(a, 2) ^ Integer.rotateRight(a, 13) ^ Integer.rotateRight(a, 22);
            int lower = Integer.rotateRight(e, 6) ^ Integer.rotateRight(e, 11) ^ Integer.rotateRight(e, 25);
            int fresh = turning[7] + lower + choice + addend;
            for (int i = 7; i > 0; i--) {
                turning[i] = turning[i - 1];
            }
            turning[4] += fresh;
            turning[0] = fresh + upper + most;
        }
    }

    private static final class Ripemd160 extends Sum {
        private static final int ROUNDS = 80;
        private static final int ROUNDS_OF_A_KIND = 16;
        private static final int[] START = {0x67452301, 0xefcdab89, 0x98badcfe, 0x10325476, 0xc3d2e1f0};
        private static final int[] LEFT_ADDENDS = {0, 0x5a827999, 0x6ed9eba1, 0x8f1bbcdc, 0xa953fd4e};
        private static final int[] RIGHT_ADDENDS = {0x50a28be6, 0x5c4dd124, 0x6d703ef3, 0x7a6d76e9, 0};
        private static final int[] LEFT_WORDS = {
            0, 1, 2, 3, 4, 5, 6, 7, 8, 9, 10, 11, 12, 13, 14, 15,
            7, 4, 13, 1, 10, 6, 15, 3, 12, 0, 9, 5, 2, 14, 11, 8,
            3, 10, 14, 4, 9, 15, 8, 1, 2, 7, 0, 6, 13, 11, 5, 12,
            1, 9, 11, 10, 0, 8, 12, 4, 13, 3, 7, 15, 14, 5, 6, 2,
            4, 0, 5, 9, 7, 12, 2, 10, 14, 1, 3, 8, 11, 6, 15, 13,
        };
        private static final int[] RIGHT_WORDS = {
            5, 14, 7, 0, 9, 2, 11, 4, 13, 6, 15, 8, 1, 10, 3, 12,
            6, 11, 3, 7, 0, 13, 5, 10, 14, 15, 8, 12, 4, 9, 1, 2,
            15, 5, 1, 3, 7, 14, 6, 9, 11, 8, 12, 2, 10, 0, 4, 13,
            8, 6, 4, 1, 3, 11, 15, 0, 5, 12, 2, 13, 9, 7, 10, 14,
            12, 15, 10, 4, 1, 5, 8, 7, 6, 2, 13, 14, 0, 3, 9, 11,
        };
        private static final int[] LEFT_TURNS = {
            11, 14, 15, 12, 5, 8, 7, 9, 11, 13, 14, 15, 6, 7, 9, 8,
            7, 6, 8, 13, 11, 9, 7, 15, 7, 12, 15, 9, 11, 7, 13, 12,
            11, 13, 6, 7, 14, 9, 13, 15, 14, 8, 13, 6, 5, 12, 7, 5,
            11, 12, 14, 15, 14, 15, 9, 8, 9, 14, 5, 6, 8, 6, 5, 12,
            9, 15, 5, 11, 6, 8, 13, 12, 5, 12, 13, 14, 11, 8, 5, 6,
        };
        private static final int[] RIGHT_TURNS = {
            8, 9, 9, 11, 13, 15, 15, 5, 7, 7, 8, 11, 14, 14, 12, 6,
            9, 13, 15, 7, 12, 8, 9, 11, 7, 7, 12, 7, 6, 15, 13, 11,
            9, 7, 15, 11, 8, 6, 6, 14, 12, 13, 5, 14, 13, 13, 7, 5,
            15, 5, 8, 11, 14, 14, 6, 14, 6, 9, 12, 9, 12, 5, 15, 8,
            8, 5, 12, 9, 12, 5, 14, 6, 8, 13, 6, 5, 15, 13, 11, 11,
        };

        private final int[] left;
        private final int[] right;

        Ripemd160() {
            super(START, 16, false);
            left = new int[START.length];
            right = new int[START.length];
        }

        @Override
        void mix() {
            System.arraycopy(state, 0, left, 0, state.length);
            System.arraycopy(state, 0, right, 0, state.length);
            for (int i = 0; i < ROUNDS; i++) {
                int kind = i / ROUNDS_OF_A_KIND;
                // The right line has the same five kinds of round, from the last to the first.
                turn(left, kind, words[LEFT_WORDS[i]] + LEFT_ADDENDS[kind], LEFT_TURNS[i]);
                turn(right, 4 - kind, words[RIGHT_WORDS[i]] + RIGHT_ADDENDS[kind], RIGHT_TURNS[i]);
            }
            int first = state[1] + left[2] + right[3];
            state[1] = state[2] + left[3] + right[4];
            state[2] = state[3] + left[4] + right[0];
            state[3] = state[4] + left[0] + right[1];
            state[4] = state[0] + left[1] + right[2];
            state[0] = first;
        }

        private static void turn(int[] line, int kind, int addend, int turns) {
            int joined = line[0] + join(kind, line[1], line[2], line[3]) + addend;
            int fresh = Integer.rotateLeft(joined, turns) + line[4];
            line[0] = line[4];
            line[4] = line[3];
            line[3] = Integer.rotateLeft(line[2], 10);
            line[2] = line[1];
            line[1] = fresh;
        }

        private static int join(int kind, int x, int y, int z) {
            return switch (kind) {
                case 0 -> x ^ y ^ z;
                case 1 -> (x & y) | (~x & z);
                case 2 -> (x | ~y) ^ z;
                case 3 -> (x & z) | (y & ~z);
                default -> x ^ (y | ~z);
            };
        }
    }
}
