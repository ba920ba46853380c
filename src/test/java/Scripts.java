import java.io.ByteArrayOutputStream;
import java.util.HashMap;
import java.util.HexFormat;
import java.util.Map;

/** Scripts written as words, and objects that are fed with them. */
final class Scripts {
    private static final Map<String, Integer> CODES = new HashMap<>();

    static {
        name(97, "NOP");
        name(99, "IF NOTIF");
        name(103, "ELSE ENDIF VERIFY RETURN TOALT FROMALT 2DROP 2DUP");
        name(115, "IFDUP DEPTH DROP DUP NIP OVER PICK ROLL ROT SWAP TUCK");
        name(130, "SIZE");
        name(135, "EQUAL EQUALVERIFY");
        name(139, "1ADD 1SUB");
        name(143, "NEGATE ABS NOT 0NOTEQUAL ADD SUB");
        name(154, "BOOLAND BOOLOR NUMEQUAL NUMEQUALVERIFY NUMNOTEQUAL LESSTHAN GREATERTHAN");
        name(161, "LESSTHANOREQUAL GREATERTHANOREQUAL MIN MAX WITHIN RIPEMD160");
        name(168, "SHA256 HASH160 HASH256");
        name(172, "CHECKSIG CHECKSIGVERIFY CHECKMULTISIG CHECKMULTISIGVERIFY");
    }

    private Scripts() {
    }

    private static void name(int first, String names) {
        for (String name : names.split(" ")) {
            CODES.put(name, first++);
        }
    }

    /**
     * Words between blanks: a code's name; -1 to 16, by the code for it; x and hex digits, a push of
     * those bytes; # and hex digits, those bytes as they are; a word, * and a number, it so often.
     */
    static byte[] bytes(String text) {
        ByteArrayOutputStream out = new ByteArrayOutputStream();
        for (String word : text.trim().split(" +")) {
            int star = word.indexOf('*');
            int times = star < 0 ? 1 : Integer.parseInt(word.substring(star + 1));
            byte[] bytes = word(star < 0 ? word : word.substring(0, star));
            for (int i = 0; i < times; i++) {
                out.writeBytes(bytes);
            }
        }
        return out.toByteArray();
    }

    private static byte[] word(String word) {
        if (word.isEmpty()) {
            return new byte[0];
        }
        if (CODES.containsKey(word)) {
            return new byte[] {(byte) (int) CODES.get(word)};
        }
        if (word.startsWith("#")) {
            return HexFormat.of().parseHex(word.substring(1));
        }
        if (word.startsWith("x")) {
            return push(HexFormat.of().parseHex(word.substring(1)));
        }
        int value = Integer.parseInt(word);
        if (value < -1 || value > 16) {
            throw new IllegalArgumentException(word);
        }
        return new byte[] {(byte) (value == 0 ? 0 : 80 + value)};
    }

    private static byte[] push(byte[] bytes) {
        ByteArrayOutputStream out = new ByteArrayOutputStream();
        if (bytes.length > 75) {
            out.write(76);
        }
        out.write(bytes.length);
        out.writeBytes(bytes);
        return out.toByteArray();
    }

    static byte[] joined(byte[] first, byte[] second) {
        ByteArrayOutputStream out = new ByteArrayOutputStream();
        out.writeBytes(first);
        out.writeBytes(second);
        return out.toByteArray();
    }

    /** THE ROW must be empty; it has just these bytes then. */
    static void feed(ScriptDesk desk, byte[] bytes) {
        for (int from = 0; from < bytes.length; from += 20) {
            desk.feed(word(bytes, from), word(bytes, from + 4), word(bytes, from + 8),
                word(bytes, from + 12), word(bytes, from + 16));
        }
        desk.end(bytes.length);
    }

    private static int word(byte[] bytes, int from) {
        int word = 0;
        for (int i = from; i < from + 4; i++) {
            word = word << 8 | (i < bytes.length ? bytes[i] & 255 : 0);
        }
        return word;
    }

    static ScriptDesk fed(byte[] bytes) {
        ScriptDesk desk = new ScriptDesk();
        feed(desk, bytes);
        return desk;
    }

    static int run(ScriptDesk desk, String first, String second) {
        byte[] before = bytes(first);
        feed(desk, joined(before, bytes(second)));
        return desk.run(before.length);
    }

    static ScriptDesk ran(String first, String second) {
        ScriptDesk desk = new ScriptDesk();
        run(desk, first, second);
        return desk;
    }

    /** The THINGS from the lowest up in hex digits, between blanks; - for one of no bytes. */
    static String stack(ScriptDesk desk) {
        StringBuilder text = new StringBuilder();
        for (int k = desk.depth() - 1; k >= 0; k--) {
            text.append(text.length() == 0 ? "" : " ");
            // Asked once: an object answers for 512 calls only.
            int size = desk.size(k);
            text.append(size == 0 ? "-" : "");
            for (int i = 0; i < size; i++) {
                text.append(String.format("%02x", desk.at(k, i)));
            }
        }
        return text.toString();
    }
}
