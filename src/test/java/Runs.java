/** What a run of two scripts leaves, or that it fails. */
abstract class Runs {
    /** Both scripts end, with this answer and this stack. */
    static void ends(String first, String second, int answer, String stack) {
        String what = "run [" + first + "] [" + second + "]";
        ScriptDesk desk = new ScriptDesk();
        Check.same(what, Scripts.run(desk, first, second), answer);
        Check.same(what + " stack", Scripts.stack(desk), stack);
    }

    /** The script leaves this stack, as the first of two and as the second. */
    static void leaves(String script, String stack) {
        String top = stack.substring(stack.lastIndexOf(' ') + 1);
        int answer = top.isEmpty() || top.equals("-") || top.matches("(00)*(00|80)") ? 1 : 2;
        ends(script, "", answer, stack);
        ends("", script, answer, stack);
    }

    static void fails(String first, String second) {
        String what = "run [" + first + "] [" + second + "]";
        ScriptDesk desk = Scripts.ran("7 8", "");
        Check.same(what, Scripts.run(desk, first, second), 0);
        Check.same(what + " stack", Scripts.stack(desk), "07 08");
        Check.same(what + " row", State.length(desk), 0);
    }

    /** The script fails, as the first of two and as the second. */
    static void fails(String script) {
        fails(script, "");
        fails("", script);
    }
}
