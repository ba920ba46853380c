/** All that an object can be asked for, as one text: to see what a call left as it was. */
final class State {
    private State() {
    }

    static String of(ScriptDesk desk) {
        return row(desk) + " [" + Scripts.stack(desk) + "]";
    }

    /** How many bytes THE ROW has, and its SHA-256, which no other row shares. */
    static String row(ScriptDesk desk) {
        StringBuilder text = new StringBuilder().append(length(desk)).append(':');
        for (int k = 0; k < 8; k++) {
            text.append(String.format("%08x", desk.hash(0, k)));
        }
        return text.toString();
    }

    /** sigs takes every n up to the length, none above it, and changes nothing. */
    static int length(ScriptDesk desk) {
        int taken = 0;
        int refused = 1001;
        while (refused - taken > 1) {
            int middle = (taken + refused) / 2;
            if (takes(desk, middle)) {
                taken = middle;
            } else {
                refused = middle;
            }
        }
        return taken;
    }

    private static boolean takes(ScriptDesk desk, int n) {
        try {
            desk.sigs(n);
            return true;
        } catch (IllegalArgumentException e) {
            return false;
        }
    }

    /** The call throws what is due, and leaves THE ROW and the stack as they were. */
    static void refused(String what, Class<? extends RuntimeException> due, ScriptDesk desk, Check.Call call) {
        String before = of(desk);
        Check.refused(what, due, call);
        Check.same(what + ", state", of(desk), before);
    }

    /** The call answers this, and leaves THE ROW and the stack as they were. */
    static void answers(String what, int due, ScriptDesk desk, Check.Call call) {
        String before = of(desk);
        Check.same(what, call.answer(), due);
        Check.same(what + ", state", of(desk), before);
    }
}
