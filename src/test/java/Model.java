import java.math.BigInteger;
import java.security.MessageDigest;
import java.security.NoSuchAlgorithmException;
import java.util.ArrayList;
import java.util.Arrays;
import java.util.List;

/** A second reading of the document: lists, big numbers, and an exception for a script that fails. */
final class Model {
    static final class Failure extends RuntimeException {
        private static final long serialVersionUID = 1L;
    }

    private List<byte[]> stack = new ArrayList<>();
    private List<byte[]> other = new ArrayList<>();
    private final List<Boolean> ifs = new ArrayList<>();
    private int counted;

    /** What both scripts leave, the lowest first; null if one fails. */
    static List<byte[]> played(byte[] first, byte[] second) {
        Model model = new Model();
        try {
            model.play(first);
            model.play(second);
        } catch (Failure e) {
            return null;
        }
        return model.stack;
    }

    static int sigs(byte[] script) {
        int sigs = 0;
        int i = 0;
        while (i < script.length) {
            int code = script[i] & 255;
            int next = next(script, i);
            if (next > script.length) {
                break;
            }
            sigs += code == 172 || code == 173 ? 1 : code == 174 || code == 175 ? 20 : 0;
            i = next;
        }
        return sigs;
    }

    private static int next(byte[] script, int i) {
        int code = script[i] & 255;
        if (code == 76) {
            return i + 1 < script.length ? i + 2 + (script[i + 1] & 255) : i + 2;
        }
        return code < 76 ? i + 1 + code : i + 1;
    }

    private void play(byte[] script) {
        other = new ArrayList<>();
        ifs.clear();
        counted = 0;
        int i = 0;
        while (i < script.length) {
            int code = script[i] & 255;
            int next = next(script, i);
            failIf(next > script.length);
            counted += code > 96 ? 1 : 0;
            failIf(counted > 201);
            boolean on = !ifs.contains(false);
            if (code == 99 || code == 100) {
                ifs.add(on && truth(pop()) == (code == 99));
            } else if (code == 103 || code == 104) {
                failIf(ifs.isEmpty());
                boolean last = ifs.remove(ifs.size() - 1);
                if (code == 103) {
                    ifs.add(!last);
                }
            } else if (on && code <= 76) {
                stack.add(Arrays.copyOfRange(script, code == 76 ? i + 2 : i + 1, next));
            } else if (on) {
                perform(code);
            }
            failIf(stack.size() + other.size() > 200);
            i = next;
        }
        failIf(!ifs.isEmpty());
    }

    private void perform(int code) {
        if (code == 79 || code >= 81 && code <= 96) {
            push(code - 80);
        } else if (code >= 97 && code <= 136) {
            arrange(code);
        } else if (code >= 139 && code <= 146) {
            push(ofOne(code, popNumber()));
        } else if (code >= 147 && code <= 164) {
            BigInteger b = popNumber();
            push(ofTwo(code, popNumber(), b));
            if (code == 157) {
                failIf(!truth(pop()));
            }
        } else if (code == 165) {
            BigInteger max = popNumber();
            BigInteger min = popNumber();
            BigInteger x = popNumber();
            push(x.compareTo(min) >= 0 && x.compareTo(max) < 0 ? 1 : 0);
        } else if (code >= 166 && code <= 170 && code != 167) {
            byte[] x = pop();
            byte[] y = code == 166 ? x : sha256(x);
            stack.add(code == 168 ? y : code == 170 ? sha256(y) : ripemd160(y));
        } else if (code >= 172 && code <= 175) {
            boolean good = code >= 174 && many();
            if (code <= 173) {
                pop();
                pop();
            }
            push(good ? 1 : 0);
            if (code % 2 == 1) {
                failIf(!truth(pop()));
            }
        } else {
            throw new Failure();
        }
    }

    private boolean many() {
        int keys = small(popNumber(), 20);
        counted += keys;
        failIf(counted > 201);
        for (int i = 0; i < keys; i++) {
            pop();
        }
        int signatures = small(popNumber(), keys);
        for (int i = 0; i < signatures + 1; i++) {
            pop();
        }
        return signatures == 0;
    }

    private void arrange(int code) {
        switch (code) {
            case 97 -> { }
            case 105 -> failIf(!truth(pop()));
            case 107 -> other.add(pop());
            case 108 -> {
                failIf(other.isEmpty());
                stack.add(other.remove(other.size() - 1));
            }
            case 109 -> rearrange(2, "");
            case 110 -> rearrange(2, "abab");
            case 115 -> rearrange(1, !stack.isEmpty() && truth(stack.get(stack.size() - 1)) ? "aa" : "a");
            case 116 -> push(stack.size());
            case 117 -> rearrange(1, "");
            case 118 -> rearrange(1, "aa");
            case 119 -> rearrange(2, "b");
            case 120 -> rearrange(2, "aba");
            case 121 -> stack.add(stack.get(placed(popNumber())));
            case 122 -> stack.add(stack.remove(placed(popNumber())));
            case 123 -> rearrange(3, "bca");
            case 124 -> rearrange(2, "ba");
            case 125 -> rearrange(2, "bab");
            case 130 -> {
                rearrange(1, "a");
                push(stack.get(stack.size() - 1).length);
            }
            case 135 -> push(Arrays.equals(pop(), pop()) ? 1 : 0);
            case 136 -> failIf(!Arrays.equals(pop(), pop()));
            default -> throw new Failure();
        }
    }

    /** The topmost ones, named a, b, c from the lowest up, come back in this order. */
    private void rearrange(int taken, String order) {
        failIf(stack.size() < taken);
        List<byte[]> top = new ArrayList<>(stack.subList(stack.size() - taken, stack.size()));
        stack = new ArrayList<>(stack.subList(0, stack.size() - taken));
        for (char name : order.toCharArray()) {
            stack.add(top.get(name - 'a'));
        }
    }

    private static BigInteger ofOne(int code, BigInteger x) {
        return switch (code) {
            case 139 -> x.add(BigInteger.ONE);
            case 140 -> x.subtract(BigInteger.ONE);
            case 143 -> x.negate();
            case 144 -> x.abs();
            case 145 -> BigInteger.valueOf(x.signum() == 0 ? 1 : 0);
            case 146 -> BigInteger.valueOf(x.signum() == 0 ? 0 : 1);
            default -> throw new Failure();
        };
    }

    private static BigInteger ofTwo(int code, BigInteger a, BigInteger b) {
        int order = a.compareTo(b);
        boolean truth = switch (code) {
            case 147, 148, 163, 164 -> false;
            case 154 -> a.signum() != 0 && b.signum() != 0;
            case 155 -> a.signum() != 0 || b.signum() != 0;
            case 156, 157 -> order == 0;
            case 158 -> order != 0;
            case 159 -> order < 0;
            case 160 -> order > 0;
            case 161 -> order <= 0;
            case 162 -> order >= 0;
            default -> throw new Failure();
        };
        return switch (code) {
            case 147 -> a.add(b);
            case 148 -> a.subtract(b);
            case 163 -> a.min(b);
            case 164 -> a.max(b);
            default -> BigInteger.valueOf(truth ? 1 : 0);
        };
    }

    private static void failIf(boolean fault) {
        if (fault) {
            throw new Failure();
        }
    }

    private static int small(BigInteger x, int most) {
        failIf(x.signum() < 0 || x.compareTo(BigInteger.valueOf(most)) > 0);
        return x.intValueExact();
    }

    private int placed(BigInteger fromTop) {
        return stack.size() - 1 - small(fromTop, stack.size() - 1);
    }

    private byte[] pop() {
        failIf(stack.isEmpty());
        return stack.remove(stack.size() - 1);
    }

    private BigInteger popNumber() {
        byte[] bytes = pop();
        failIf(bytes.length > 4);
        return number(bytes);
    }

    static BigInteger number(byte[] bytes) {
        byte[] size = reversed(bytes);
        if (size.length == 0) {
            return BigInteger.ZERO;
        }
        boolean negative = size[0] < 0;
        size[0] &= 127;
        return new BigInteger(negative ? -1 : 1, size);
    }

    private void push(long x) {
        push(BigInteger.valueOf(x));
    }

    private void push(BigInteger x) {
        if (x.signum() == 0) {
            stack.add(new byte[0]);
            return;
        }
        // toByteArray leaves room for a sign bit, as a script's numbers do.
        byte[] bytes = reversed(x.abs().toByteArray());
        if (x.signum() < 0) {
            bytes[bytes.length - 1] |= (byte) 128;
        }
        stack.add(bytes);
    }

    static boolean truth(byte[] bytes) {
        return number(bytes).signum() != 0;
    }

    private static byte[] reversed(byte[] bytes) {
        byte[] back = new byte[bytes.length];
        for (int i = 0; i < bytes.length; i++) {
            back[i] = bytes[bytes.length - 1 - i];
        }
        return back;
    }

    private static byte[] sha256(byte[] bytes) {
        try {
            return MessageDigest.getInstance("SHA-256").digest(bytes);
        } catch (NoSuchAlgorithmException e) {
            throw new IllegalStateException(e);
        }
    }

    /** Java has no RIPEMD-160 of its own; HashTest holds the program's against known sums. */
    private static byte[] ripemd160(byte[] bytes) {
        ScriptDesk desk = Scripts.fed(bytes);
        byte[] sum = new byte[20];
        for (int i = 0; i < 20; i++) {
            sum[i] = (byte) (desk.hash(2, i / 4) >> 8 * (i % 4));
        }
        return sum;
    }
}
