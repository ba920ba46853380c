/** Promise 9: sigs. */
final class SigsTest {
    public static void main(String[] args) {
        counts("", 0);
        counts("CHECKSIG", 1);
        counts("CHECKSIGVERIFY", 1);
        counts("CHECKMULTISIG", 20);
        counts("CHECKMULTISIGVERIFY", 20);
        counts("2 CHECKMULTISIG", 20);
        counts("1 DUP HASH160 EQUALVERIFY CHECKSIG CHECKSIG CHECKMULTISIG", 22);
        counts("#abb0ffb1 CHECKSIG", 1);
        counts("0 IF CHECKSIG ELSE RETURN CHECKMULTISIG ENDIF", 21);
        counts("CHECKMULTISIG*1000", 20000);
        pushesAreSkipped();
        pushesBeyond();
        onlyTheFirst();
        theRowStays();
        refuses();
        Check.finish();
    }

    private static void counts(String script, int due) {
        byte[] bytes = Scripts.bytes(script);
        Check.same("sigs of " + script, Scripts.fed(bytes).sigs(bytes.length), due);
    }

    private static void pushesAreSkipped() {
        counts("#01ac", 0);
        counts("#01acac", 1);
        counts("x" + "ac".repeat(75) + " CHECKSIG", 1);
        counts("x" + "ae".repeat(76) + " CHECKSIG", 1);
        counts("x" + "ae".repeat(255) + " CHECKSIG", 1);
        counts("#4c00 CHECKSIG", 1);
        counts("#4c01ac CHECKSIG", 1);
        // 77 and 78 push nothing here, as 79 on do not: they are among the others.
        counts("#4dac CHECKSIG", 2);
        counts("#4eac CHECKSIG", 2);
        counts("#4fac50ac60ac", 3);
    }

    private static void pushesBeyond() {
        counts("CHECKSIG #02ac", 1);
        counts("CHECKSIG #03acac", 1);
        counts("CHECKSIG #02acac", 1);
        counts("CHECKSIG #4bac", 1);
        counts("CHECKSIG #4c", 1);
        counts("CHECKSIG*999 #4c", 999);
        counts("CHECKSIG #4c02ac", 1);
        counts("CHECKSIG #4cacac", 1);
        counts("#ffac4cff CHECKSIG*9", 1);
    }

    private static void onlyTheFirst() {
        ScriptDesk desk = Scripts.fed(Scripts.bytes("CHECKSIG CHECKMULTISIG #02acac CHECKSIG #4c01ac CHECKSIG"));
        int[] due = {0, 1, 21, 21, 21, 21, 22, 22, 22, 22, 23};
        for (int n = 0; n < due.length; n++) {
            Check.same("sigs of the first " + n, desk.sigs(n), due[n]);
        }
    }

    private static void theRowStays() {
        ScriptDesk desk = Scripts.fed(Scripts.bytes("1 2 ADD"));
        int sum = desk.hash(0, 0);
        desk.sigs(3);
        desk.sigs(1);
        Check.same("the row behind sigs", desk.hash(0, 0), sum);
        Check.same("its run", desk.run(2), 2);
        Check.same("sigs of the row that run left", desk.sigs(0), 0);
        Check.refused("run left none", IllegalArgumentException.class, () -> desk.sigs(1));
        Check.same("the stack behind sigs", Scripts.stack(desk), "03");
    }

    private static void refuses() {
        ScriptDesk desk = Scripts.fed(new byte[30]);
        for (int n : new int[] {-1, Integer.MIN_VALUE, 31, 1000, Integer.MAX_VALUE}) {
            Check.refused("sigs " + n, IllegalArgumentException.class, () -> desk.sigs(n));
        }
        Check.same("the row stays", desk.end(30), 30);
    }
}
