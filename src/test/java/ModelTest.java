import java.io.ByteArrayOutputStream;
import java.util.Arrays;
import java.util.HexFormat;
import java.util.List;
import java.util.Random;

/** Scripts by chance, the same in each run, against the model: answer, stack, numbers and sigs. */
final class ModelTest {
    private static final int RUNS = 60000;
    private static final int[] KNOWN = {
        97, 105, 107, 108, 109, 110, 115, 116, 117, 118, 119, 120, 121, 122, 123, 124, 125, 130, 135, 136,
        139, 140, 143, 144, 145, 146, 147, 148, 154, 155, 156, 157, 158, 159, 160, 161, 162, 163, 164, 165,
        166, 168, 169, 170, 172, 173, 174, 175,
    };

    public static void main(String[] args) {
        Random random = new Random(20261115);
        int[] seen = new int[3];
        String before = "";
        ScriptDesk desk = new ScriptDesk();
        for (int run = 0; run < RUNS; run++) {
            // Not more runs on one object: it answers for 512 calls only.
            if (run % 2 == 0) {
                desk = new ScriptDesk();
                before = "";
            }
            byte[] first = Scripts.joined(pushes(random, random.nextInt(12)), script(random, random.nextInt(6)));
            byte[] second = script(random, random.nextInt(12));
            before = compare(desk, first, second, before, seen);
        }
        System.out.println("answers 0, 1, 2: " + Arrays.toString(seen));
        for (int answer = 0; answer < 3; answer++) {
            Check.same("answer " + answer + " is common", seen[answer] > RUNS / 50, true);
        }
        Check.finish();
    }

    private static String compare(ScriptDesk desk, byte[] first, byte[] second, String before, int[] seen) {
        String what = HexFormat.of().formatHex(first) + " " + HexFormat.of().formatHex(second);
        List<byte[]> left = Model.played(first, second);
        Scripts.feed(desk, Scripts.joined(first, second));
        Check.same(what + " sigs", desk.sigs(first.length), Model.sigs(first));
        int answer = desk.run(first.length);
        seen[answer]++;
        Check.same(what, answer, answer(left));
        String due = left == null ? before : text(left);
        Check.same(what + " stack", Scripts.stack(desk), due);
        if (left != null) {
            numbers(what, desk, left);
        }
        return due;
    }

    private static int answer(List<byte[]> left) {
        if (left == null) {
            return 0;
        }
        return !left.isEmpty() && Model.truth(left.get(left.size() - 1)) ? 2 : 1;
    }

    private static String text(List<byte[]> stack) {
        StringBuilder text = new StringBuilder();
        for (byte[] thing : stack) {
            text.append(text.length() == 0 ? "" : " ");
            text.append(thing.length == 0 ? "-" : HexFormat.of().formatHex(thing));
        }
        return text.toString();
    }

    private static void numbers(String what, ScriptDesk desk, List<byte[]> left) {
        for (int k = 0; k < Math.min(left.size(), 5); k++) {
            int place = k;
            byte[] thing = left.get(left.size() - 1 - k);
            if (thing.length > 4) {
                Check.refused(what + " number " + k, ArithmeticException.class, () -> desk.number(place));
            } else {
                Check.same(what + " number " + k, desk.number(k), Model.number(thing).intValueExact());
            }
        }
    }

    private static byte[] script(Random random, int words) {
        ByteArrayOutputStream out = new ByteArrayOutputStream();
        int open = 0;
        for (int i = 0; i < words; i++) {
            int chance = random.nextInt(100);
            if (chance < 45) {
                push(random, out);
            } else if (chance < 50) {
                out.write(81 * random.nextInt(2));
                out.write(99 + random.nextInt(2));
                open++;
            } else if (chance < 54 && open > 0) {
                out.write(103);
            } else if (chance < 59 && open > 0) {
                out.write(104);
                open--;
            } else if (chance < 98) {
                out.write(KNOWN[random.nextInt(KNOWN.length)]);
            } else {
                out.write(random.nextInt(256));
            }
        }
        while (open > 0 && random.nextInt(30) > 0) {
            out.write(104);
            open--;
        }
        byte[] whole = out.toByteArray();
        return random.nextInt(40) == 0 ? Arrays.copyOf(whole, whole.length / 2) : whole;
    }

    private static byte[] pushes(Random random, int count) {
        ByteArrayOutputStream out = new ByteArrayOutputStream();
        for (int i = 0; i < count; i++) {
            push(random, out);
        }
        return out.toByteArray();
    }

    private static void push(Random random, ByteArrayOutputStream out) {
        switch (random.nextInt(8)) {
            case 0 -> out.write(79);
            case 1, 2 -> out.write(0);
            case 3, 4, 5 -> out.write(81 + random.nextInt(4));
            case 6 -> out.write(81 + random.nextInt(16));
            default -> pushBytes(random, out);
        }
    }

    /** Few kinds of bytes, so that equal ones, zeros with signs and long numbers are common. */
    private static void pushBytes(Random random, ByteArrayOutputStream out) {
        int[] kinds = {0, 0, 1, 127, 128, 129, 255};
        int length = 1 + random.nextInt(random.nextInt(4) == 0 ? 9 : 4);
        if (random.nextInt(4) == 0) {
            out.write(76);
        }
        out.write(length);
        for (int i = 0; i < length; i++) {
            out.write(kinds[random.nextInt(kinds.length)]);
        }
    }
}
