import java.nio.charset.StandardCharsets;
import java.security.MessageDigest;
import java.security.NoSuchAlgorithmException;
import java.util.HexFormat;

/** Promise 10: hash. */
final class HashTest {
    public static void main(String[] args) throws NoSuchAlgorithmException {
        knownRipemd160();
        longRipemd160();
        knownSha256();
        everyLength();
        theRowStays();
        refuses();
        Check.finish();
    }

    private static String sum(ScriptDesk desk, int how) {
        StringBuilder text = new StringBuilder();
        for (int k = 0; k < (how == 2 ? 5 : 8); k++) {
            text.append(String.format("%08x", Integer.reverseBytes(desk.hash(how, k))));
        }
        return text.toString();
    }

    private static byte[] ascii(String text) {
        return text.getBytes(StandardCharsets.US_ASCII);
    }

    /** The sums that the makers of RIPEMD-160 published. */
    private static void knownRipemd160() {
        ripemd160("", "9c1185a5c5e9fc54612808977ee8f548b2258d31");
        ripemd160("a", "0bdc9d2d256b3ee9daae347be6f4dc835a467ffe");
        ripemd160("abc", "8eb208f7e05d987a9b044a8e98c6b087f15a0bfc");
        ripemd160("message digest", "5d0689ef49d2fae572b881b123a85ffa21595f36");
        ripemd160("abcdefghijklmnopqrstuvwxyz", "f71c27109c692c1b56bbdceb5b9d2865b3708dbc");
        ripemd160("abcdbcdecdefdefgefghfghighijhijkijkljklmklmnlmnomnopnopq",
            "12a053384a9c0c88e405a06c27dcf49ada62eb2b");
        ripemd160("ABCDEFGHIJKLMNOPQRSTUVWXYZabcdefghijklmnopqrstuvwxyz0123456789",
            "b0e20b6e3116640286ed3a87a5713079b21f5189");
        ripemd160("1234567890".repeat(8), "9b752e45573d4b39f4dbd3323cab82bf63326bfb");
    }

    /** Lengths about the ends of blocks; these sums are OpenSSL's. */
    private static void longRipemd160() {
        ripemd160(55, "55c43c4e97e803010937b492d8c17ce1507ff933");
        ripemd160(56, "983c5dd368608a6ee4739c1dde1debdee23fd1d6");
        ripemd160(63, "1a48a0bd50865de150615d3963f99d13f57fd536");
        ripemd160(64, "ba56c26c679a6e23652ea0389883aa1b3de68a80");
        ripemd160(119, "8145deca26648f2cfa07c3eca8b10a1a54437022");
        ripemd160(120, "5794cacc129b668453d3b2e2daa5d6dbff463977");
        ripemd160(255, "3bc1c57b09726da7cf20e2bcd27c655ff5cce017");
        ripemd160(1000, "f83267dd950b6efcef075b255742c16ceb94c1a9");
    }

    private static void ripemd160(int length, String due) {
        Check.same("RIPEMD-160 of " + length, sum(Scripts.fed(mixed(length)), 2), due);
    }

    private static byte[] mixed(int length) {
        byte[] bytes = new byte[length];
        for (int i = 0; i < length; i++) {
            bytes[i] = (byte) (i * i * 7 + i * 31 + 200);
        }
        return bytes;
    }

    private static void ripemd160(String text, String due) {
        Check.same("RIPEMD-160 of " + text, sum(Scripts.fed(ascii(text)), 2), due);
    }

    private static void knownSha256() {
        ScriptDesk abc = Scripts.fed(ascii("abc"));
        Check.same("SHA-256 of abc", sum(abc, 0),
            "ba7816bf8f01cfea414140de5dae2223b00361a396177a9cb410ff61f20015ad");
        Check.same("its SHA-256", sum(abc, 1),
            "4f8b42c22dd3729b519ba6f68d2da7cc5b2d606d05daed5ad5128cc03e6c6358");
        Check.same("first byte lowest", abc.hash(0, 0), 0xbf1678ba);
        Check.same("last word", abc.hash(0, 7), 0xad1500f2);
    }

    private static void everyLength() throws NoSuchAlgorithmException {
        MessageDigest sha256 = MessageDigest.getInstance("SHA-256");
        for (int length = 1000; length >= 0; length--) {
            byte[] part = mixed(length);
            ScriptDesk desk = Scripts.fed(part);
            byte[] once = sha256.digest(part);
            Check.same("SHA-256 of " + length, sum(desk, 0), HexFormat.of().formatHex(once));
            Check.same("SHA-256 of it, " + length, sum(desk, 1), HexFormat.of().formatHex(sha256.digest(once)));
        }
    }

    private static void theRowStays() {
        ScriptDesk desk = Scripts.fed(Scripts.bytes("1 2 3"));
        for (int how = 0; how < 3; how++) {
            String once = sum(desk, how);
            Check.same("again " + how, sum(desk, how), once);
        }
        Check.same("depth behind hash", desk.depth(), 0);
        Check.same("run behind hash", desk.run(2), 2);
        Check.same("stack behind hash", Scripts.stack(desk), "01 02 03");
        sum(desk, 1);
        Check.same("the stack stays", Scripts.stack(desk), "01 02 03");
    }

    private static void refuses() {
        ScriptDesk desk = Scripts.fed(new byte[30]);
        for (int how : new int[] {-1, 3, 4, Integer.MIN_VALUE, Integer.MAX_VALUE}) {
            Check.refused("how " + how, IllegalArgumentException.class, () -> desk.hash(how, 0));
        }
        for (int how = 0; how < 3; how++) {
            for (int k : new int[] {-1, how == 2 ? 5 : 8, 8, Integer.MIN_VALUE, Integer.MAX_VALUE}) {
                int kind = how;
                Check.refused("hash " + how + " " + k, IllegalArgumentException.class, () -> desk.hash(kind, k));
            }
        }
        Check.same("the row stays", desk.end(30), 30);
    }
}
