/** Promise 4: run, with the codes and limits that the terms tell. */
final class RunTest extends Runs {
    private static final String SHA_OF_NONE = "e3b0c44298fc1c149afbf4c8996fb92427ae41e4649b934ca495991b7852b855";

    public static void main(String[] args) {
        twoScripts();
        answers();
        theRowIsSpent();
        aFailureKeepsTheStack();
        refuses();
        pushes();
        branches();
        branchesFail();
        branchesNotTaken();
        verifying();
        otherStack();
        arranging();
        arrangingFails();
        equality();
        numbersOfOne();
        numbersOfTwo();
        comparisons();
        within();
        numbersOfFiveBytes();
        sums();
        signatures();
        manySignatures();
        otherCodes();
        codeLimit();
        thingLimit();
        longRun();
        Check.finish();
    }

    private static void twoScripts() {
        ends("", "", 1, "");
        ends("1 2", "", 2, "01 02");
        ends("", "1 2", 2, "01 02");
        ends("1 2", "ADD", 2, "03");
        fails("1", "ADD");
        fails("ADD", "1 2");
        fails("1", "RETURN");
        fails("RETURN", "1");
        // A push does not reach from one script into the other, nor does an IF.
        fails("#02aa", "#bb51");
        fails("1 IF", "ENDIF");
        fails("1 IF 1", "ELSE ENDIF");
    }

    private static void answers() {
        ends("1", "", 2, "01");
        ends("-1", "", 2, "81");
        ends("1 0", "", 1, "01 -");
        ends("0 1", "", 2, "- 01");
        ends("x00", "", 1, "00");
        ends("x80", "", 1, "80");
        ends("x0000", "", 1, "0000");
        ends("x000080", "", 1, "000080");
        ends("x8000", "", 2, "8000");
        ends("x8080", "", 2, "8080");
        ends("x0081", "", 2, "0081");
        ends("x0000000000000080", "", 1, "0000000000000080");
        ends("x0000000001000000", "", 2, "0000000001000000");
        ends("1 DROP", "", 1, "");
    }

    private static void theRowIsSpent() {
        ScriptDesk desk = new ScriptDesk();
        for (String script : new String[] {"1", "0", "RETURN"}) {
            Scripts.run(desk, script, "NOP");
            Check.refused("the row behind " + script, IllegalArgumentException.class, () -> desk.end(1));
            Check.same("fed behind " + script, desk.feed(0, 0, 0, 0, 0), 20);
            desk.end(0);
        }
    }

    private static void aFailureKeepsTheStack() {
        ScriptDesk desk = Scripts.ran("1 2", "3");
        Check.same("a failure", Scripts.run(desk, "4 5 6 7", "DROP RETURN"), 0);
        Check.same("keeps", Scripts.stack(desk), "01 02 03");
        Check.same("a second one", Scripts.run(desk, "#05", ""), 0);
        Check.same("keeps it too", Scripts.stack(desk), "01 02 03");
        Check.same("a run begins on none", Scripts.run(desk, "DEPTH", ""), 1);
        Check.same("and leaves its own", Scripts.stack(desk), "-");
        Check.same("a run of nothing", desk.run(0), 1);
        Check.same("leaves nothing", desk.depth(), 0);
    }

    private static void refuses() {
        ScriptDesk desk = Scripts.ran("1", "");
        Scripts.feed(desk, Scripts.bytes("2 3 4"));
        for (int n : new int[] {-1, 4, 1000, Integer.MIN_VALUE, Integer.MAX_VALUE}) {
            Check.refused("run " + n, IllegalArgumentException.class, () -> desk.run(n));
        }
        Check.same("the stack stays", Scripts.stack(desk), "01");
        Check.same("the row stays", desk.run(3), 2);
        Check.same("whole", Scripts.stack(desk), "02 03 04");
        Check.refused("run 1 of none", IllegalArgumentException.class, () -> desk.run(1));
    }

    private static void pushes() {
        leaves("0", "-");
        leaves("x05", "05");
        leaves("x" + "0a".repeat(75), "0a".repeat(75));
        leaves("x" + "0a".repeat(76), "0a".repeat(76));
        leaves("x" + "0b".repeat(255), "0b".repeat(255));
        leaves("#4c00", "-");
        leaves("#4c0107", "07");
        leaves("#0200ac 1", "00ac 01");
        leaves("-1 1 2 3 4 5 6 7 8", "81 01 02 03 04 05 06 07 08");
        leaves("9 10 11 12 13 14 15 16", "09 0a 0b 0c 0d 0e 0f 10");
        leaves("NOP", "");
        fails("1 #01");
        fails("1 #020a");
        fails("1 #4b" + "0a".repeat(74));
        fails("1 #4c");
        fails("1 #4c01");
        fails("1 #4cff" + "0a".repeat(254));
        // The length would stand behind the last byte that a row can have.
        fails(("x" + "0a".repeat(248) + " ").repeat(3), "x" + "0a".repeat(247) + " #4c");
        ends(("x" + "0a".repeat(248) + " DROP ").repeat(3), "x" + "0b".repeat(244) + " 1", 2, "0b".repeat(244) + " 01");
    }

    private static void branches() {
        leaves("1 IF 2 ENDIF 3", "02 03");
        leaves("0 IF 2 ENDIF 3", "03");
        leaves("1 NOTIF 2 ENDIF 3", "03");
        leaves("0 NOTIF 2 ENDIF 3", "02 03");
        leaves("1 IF 2 ELSE 3 ENDIF", "02");
        leaves("0 IF 2 ELSE 3 ENDIF", "03");
        leaves("x80 IF 2 ELSE 3 ENDIF", "03");
        leaves("x0000 IF 2 ELSE 3 ENDIF", "03");
        leaves("x0000000000000001 IF 2 ELSE 3 ENDIF", "02");
        leaves("1 IF 2 ELSE 3 ELSE 4 ENDIF", "02 04");
        leaves("0 IF 2 ELSE 3 ELSE 4 ELSE 5 ENDIF", "03 05");
        leaves("1 1 IF IF 2 ELSE 3 ENDIF ELSE 4 ENDIF", "02");
        leaves("0 1 IF IF 2 ELSE 3 ENDIF ELSE 4 ENDIF", "03");
        leaves("9 0 IF IF 2 ELSE 3 ENDIF ELSE 4 ENDIF", "09 04");
        leaves("0 IF 0 IF 2 ELSE 3 ELSE 4 ENDIF 5 ELSE 6 ENDIF", "06");
        leaves("0 IF NOTIF 2 ENDIF ENDIF 7", "07");
        leaves("1 IF ELSE 1 IF 2 ELSE 3 ENDIF ENDIF 7", "07");
        leaves("1 IF 0 IF ELSE 2 ENDIF 3 ENDIF", "02 03");
        leaves("1 IF ENDIF 0 IF 5 ENDIF 1 IF 6 ENDIF", "06");
        leaves("1*60 IF*60 5 ENDIF*60", "05");
        leaves("0 IF*100 5 ENDIF*100 6", "06");
    }

    private static void branchesFail() {
        fails("1 IF");
        fails("0 IF");
        fails("1 NOTIF 1");
        fails("1 IF ELSE");
        fails("1 1 IF IF ENDIF");
        fails("0 IF IF ENDIF");
        fails("IF");
        fails("NOTIF");
        fails("IF ENDIF");
        fails("NOTIF ENDIF");
        fails("ELSE");
        fails("ENDIF");
        fails("1 ELSE ENDIF");
        fails("1 IF ENDIF ENDIF");
        fails("1 IF ENDIF ELSE");
        fails("1 IF IF ENDIF ENDIF");
    }

    private static void branchesNotTaken() {
        leaves("0 IF RETURN VERIFY ADD DROP CHECKSIGVERIFY ENDIF 1", "01");
        leaves("0 IF x" + "68".repeat(75) + " x" + "68".repeat(200) + " #4c00 ENDIF 1", "01");
        // Also the codes that Bitcoin fails for in every place, and those that push there.
        leaves("0 IF #4d ENDIF 1", "01");
        leaves("0 IF #4e ENDIF 1", "01");
        leaves("0 IF #506265667e8d95a7ab ENDIF 1", "01");
        leaves("1 IF 1 ELSE #506265667e8d95a7abb0baff ENDIF", "01");
        fails("0 IF #01");
        fails("0 IF ENDIF 0 IF #02aa");
        fails("0 IF #4b ENDIF 1");
        fails("0 IF #4c");
        fails("0 IF #4c05 ENDIF 1");
    }

    private static void verifying() {
        leaves("5 1 VERIFY", "05");
        leaves("5 x0002 VERIFY", "05");
        fails("1 0 VERIFY");
        fails("1 x80 VERIFY");
        fails("VERIFY");
        fails("RETURN");
        fails("1 RETURN");
    }

    private static void otherStack() {
        leaves("1 2 TOALT 3 FROMALT", "01 03 02");
        leaves("1 2 3 TOALT TOALT FROMALT FROMALT", "01 02 03");
        leaves("1 2 TOALT", "01");
        leaves("1 2 TOALT DEPTH", "01 01");
        fails("TOALT");
        fails("FROMALT");
        fails("1 TOALT FROMALT FROMALT");
        fails("1 2 TOALT", "FROMALT");
    }

    private static void arranging() {
        leaves("5 IFDUP", "05 05");
        leaves("0 IFDUP", "-");
        ends("x80 IFDUP", "", 1, "80");
        leaves("x0001 IFDUP", "0001 0001");
        leaves("DEPTH DEPTH DEPTH", "- 01 02");
        leaves("0*127 DEPTH NIP", "- ".repeat(126) + "7f");
        leaves("0*128 DEPTH NIP", "- ".repeat(127) + "8000");
        leaves("1 2 DROP", "01");
        leaves("1 2 DUP", "01 02 02");
        leaves("1 2 3 NIP", "01 03");
        leaves("1 2 3 OVER", "01 02 03 02");
        leaves("1 2 3 0 PICK", "01 02 03 03");
        leaves("1 2 3 2 PICK", "01 02 03 01");
        leaves("1 2 3 0 ROLL", "01 02 03");
        leaves("1 2 3 4 2 ROLL", "01 03 04 02");
        leaves("1 2 3 4 3 ROLL", "02 03 04 01");
        leaves("1 2 x01000000 PICK", "01 02 01");
        leaves("1 2 x80 ROLL", "01 02");
        leaves("1 2 3 4 ROT", "01 03 04 02");
        leaves("1 2 3 SWAP", "01 03 02");
        leaves("1 2 3 TUCK", "01 03 02 03");
        leaves("1 2 3 2DROP", "01");
        leaves("1 2 3 2DUP", "01 02 03 02 03");
        leaves("0 SIZE", "- -");
        leaves("x" + "07".repeat(127) + " SIZE", "07".repeat(127) + " 7f");
        leaves("x" + "07".repeat(255) + " SIZE", "07".repeat(255) + " ff00");
    }

    private static void arrangingFails() {
        for (String one : new String[] {"IFDUP", "DROP", "DUP", "SIZE"}) {
            fails(one);
            fails("1 DROP " + one);
        }
        for (String two : new String[] {"NIP", "OVER", "SWAP", "TUCK", "2DROP", "2DUP", "EQUAL", "EQUALVERIFY"}) {
            fails("1 " + two);
            fails("1 1 TOALT " + two);
        }
        fails("ROT");
        fails("1 2 ROT");
        for (String fetch : new String[] {"PICK", "ROLL"}) {
            fails(fetch);
            fails("0 " + fetch);
            fails("1 1 " + fetch);
            fails("1 2 3 3 " + fetch);
            fails("1 2 3 -1 " + fetch);
            fails("1 2 3 xffffff7f " + fetch);
            fails("1 2 3 xffffffff " + fetch);
            fails("1 2 3 x0100000000 " + fetch);
        }
    }

    private static void equality() {
        leaves("5 x05 EQUAL", "01");
        leaves("5 x0500 EQUAL", "-");
        leaves("0 x80 EQUAL", "-");
        leaves("0 #4c00 EQUAL", "01");
        leaves("x010203040506 x010203040506 EQUAL", "01");
        leaves("x010203040506 x010203040507 EQUAL", "-");
        leaves("x010203040506 x110203040506 EQUAL", "-");
        leaves("9 5 5 EQUALVERIFY", "09");
        fails("9 5 6 EQUALVERIFY");
        fails("9 x0500 5 EQUALVERIFY");
    }

    private static void numbersOfOne() {
        leaves("5 1ADD", "06");
        leaves("-1 1ADD", "-");
        leaves("x7f 1ADD", "8000");
        leaves("xff7f 1ADD", "008000");
        leaves("xffffff7f 1ADD", "0000008000");
        leaves("5 1SUB", "04");
        leaves("1 1SUB", "-");
        leaves("0 1SUB", "81");
        leaves("xff 1SUB", "8080");
        leaves("xffffffff 1SUB", "0000008080");
        leaves("5 NEGATE", "85");
        leaves("0 NEGATE", "-");
        leaves("x80 NEGATE", "-");
        leaves("x85 NEGATE", "05");
        leaves("x8500 NEGATE", "8580");
        leaves("x05000080 NEGATE", "05");
        leaves("5 ABS", "05");
        leaves("x85 ABS", "05");
        leaves("x0080 ABS", "-");
        leaves("xffffffff ABS", "ffffff7f");
        leaves("0 NOT", "01");
        leaves("x0080 NOT", "01");
        leaves("1 NOT", "-");
        leaves("2 NOT", "-");
        leaves("-1 NOT", "-");
        leaves("0 0NOTEQUAL", "-");
        leaves("x80 0NOTEQUAL", "-");
        leaves("x0500 0NOTEQUAL", "01");
        leaves("-1 0NOTEQUAL", "01");
    }

    private static void numbersOfTwo() {
        leaves("9 5 3 ADD", "09 08");
        leaves("5 x88 ADD", "83");
        leaves("x0500 x0300 ADD", "08");
        leaves("xffffff7f xffffff7f ADD", "feffffff00");
        leaves("xffffffff xffffffff ADD", "feffffff80");
        leaves("5 3 SUB", "02");
        leaves("3 5 SUB", "82");
        leaves("5 5 SUB", "-");
        leaves("xffffffff xffffff7f SUB", "feffffff80");
        leaves("2 3 BOOLAND", "01");
        leaves("2 0 BOOLAND", "-");
        leaves("x80 3 BOOLAND", "-");
        leaves("0 0 BOOLAND", "-");
        leaves("2 3 BOOLOR", "01");
        leaves("2 0 BOOLOR", "01");
        leaves("0 -1 BOOLOR", "01");
        leaves("0 x0080 BOOLOR", "-");
        leaves("3 5 MIN", "03");
        leaves("5 3 MIN", "03");
        leaves("x85 3 MIN", "85");
        leaves("x0300 5 MIN", "03");
        leaves("3 5 MAX", "05");
        leaves("5 3 MAX", "05");
        leaves("x85 x83 MAX", "83");
    }

    private static void comparisons() {
        compares("NUMEQUAL", "-", "01", "-");
        compares("NUMNOTEQUAL", "01", "-", "01");
        compares("LESSTHAN", "01", "-", "-");
        compares("GREATERTHAN", "-", "-", "01");
        compares("LESSTHANOREQUAL", "01", "01", "-");
        compares("GREATERTHANOREQUAL", "-", "01", "01");
        leaves("9 5 x0500 NUMEQUALVERIFY", "09");
        leaves("9 0 x80 NUMEQUALVERIFY", "09");
        fails("9 5 6 NUMEQUALVERIFY");
        fails("9 5 x85 NUMEQUALVERIFY");
    }

    private static void compares(String code, String below, String same, String above) {
        leaves("3 5 " + code, below);
        leaves("-1 0 " + code, below);
        leaves("x85 x83 " + code, below);
        leaves("xffffffff xffffff7f " + code, below);
        leaves("5 5 " + code, same);
        leaves("x0500 5 " + code, same);
        leaves("x80 0 " + code, same);
        leaves("5 3 " + code, above);
        leaves("x0001 xff00 " + code, above);
        leaves("1 x81 " + code, above);
    }

    private static void within() {
        leaves("2 3 5 WITHIN", "-");
        leaves("3 3 5 WITHIN", "01");
        leaves("4 3 5 WITHIN", "01");
        leaves("5 3 5 WITHIN", "-");
        leaves("4 5 3 WITHIN", "-");
        leaves("3 3 3 WITHIN", "-");
        leaves("9 0 -1 1 WITHIN", "09 01");
        fails("1 2 WITHIN");
        fails("WITHIN");
    }

    private static void numbersOfFiveBytes() {
        String five = "x0100000000";
        for (String one : new String[] {"1ADD", "1SUB", "NEGATE", "ABS", "NOT", "0NOTEQUAL"}) {
            fails(one);
            fails(five + " " + one);
        }
        String codes = "ADD SUB BOOLAND BOOLOR NUMEQUAL NUMEQUALVERIFY NUMNOTEQUAL LESSTHAN GREATERTHAN"
            + " LESSTHANOREQUAL GREATERTHANOREQUAL MIN MAX";
        for (String two : codes.split(" ")) {
            fails(two);
            fails("1 " + two);
            fails(five + " 1 " + two);
            fails("1 " + five + " " + two);
        }
        fails(five + " 1 1 WITHIN");
        fails("1 " + five + " 1 WITHIN");
        fails("1 1 " + five + " WITHIN");
        fails("xffffff7f 1ADD 1SUB");
        leaves(five + " " + five + " EQUAL", "01");
        leaves(five + " IF 2 ENDIF", "02");
        leaves(five + " SIZE", "0100000000 05");
    }

    private static void sums() {
        leaves("0 RIPEMD160", "9c1185a5c5e9fc54612808977ee8f548b2258d31");
        leaves("x616263 RIPEMD160", "8eb208f7e05d987a9b044a8e98c6b087f15a0bfc");
        leaves("0 SHA256", SHA_OF_NONE);
        leaves("9 x616263 SHA256", "09 ba7816bf8f01cfea414140de5dae2223b00361a396177a9cb410ff61f20015ad");
        leaves("0 HASH160", "b472a266d0bd89c13706a4132ccfb16f7c3b9fcb");
        leaves("0 HASH256", "5df6e0e2761359d30a8275058e299fcc0381534545f55cf43e41983f5d4c9456");
        leaves("x616263 SHA256 RIPEMD160 x616263 HASH160 EQUAL", "01");
        leaves("x616263 SHA256 SHA256 x616263 HASH256 EQUAL", "01");
        leaves("0 SHA256*150 SIZE NIP", "20");
        for (String sum : new String[] {"RIPEMD160", "SHA256", "HASH160", "HASH256"}) {
            fails(sum);
            fails("1 TOALT " + sum);
        }
    }

    private static void signatures() {
        leaves("9 0 0 CHECKSIG", "09 -");
        leaves("9 1 1 CHECKSIG", "09 -");
        leaves("1 1 CHECKSIG NOT", "01");
        fails("1 CHECKSIG");
        fails("CHECKSIG");
        fails("9 1 1 CHECKSIGVERIFY");
        fails("1 CHECKSIGVERIFY");
    }

    private static void manySignatures() {
        leaves("0 0 0 CHECKMULTISIG", "01");
        leaves("9 8 0 0 CHECKMULTISIG", "09 01");
        leaves("9 x0102030405 0 7 1 CHECKMULTISIG", "09 01");
        leaves("9 8 x80 7 7 x0200 CHECKMULTISIG", "09 01");
        leaves("9 8 6 1 7 1 CHECKMULTISIG", "09 -");
        leaves("9 8 6 6 2 7 7 7 3 CHECKMULTISIG", "09 -");
        leaves("9 8 6*20 x14 7*20 x14 CHECKMULTISIG", "09 -");
        leaves("9 8 0 7*20 x14 CHECKMULTISIG", "09 01");
        leaves("9 8 0 0 CHECKMULTISIGVERIFY", "09");
        leaves("9 8 0 7 7 2 CHECKMULTISIGVERIFY", "09");
        fails("9 8 6 1 7 1 CHECKMULTISIGVERIFY");
        for (String code : new String[] {"CHECKMULTISIG", "CHECKMULTISIGVERIFY"}) {
            fails(code);
            fails("0 " + code);
            fails("0 0 " + code);
            fails("0 1 " + code);
            fails("0 0 7 2 " + code);
            fails("6 1 7 1 " + code);
            fails("1 7 1 " + code);
            fails("9 9 9 -1 " + code);
            fails("9 9 -1 0 " + code);
            fails("9 9 9 2 7 1 " + code);
            fails("9 9 1 0 " + code);
            fails("9 8 0 7*21 x15 " + code);
            fails("9 8 x0000000000 0 " + code);
            fails("9 8 0 x0000000000 " + code);
        }
    }

    private static void otherCodes() {
        String known = "0 76 79 81 97 99 100 103 104 105 107 108 109 110 115 116 117 118 119 120 121 122 123 124"
            + " 125 130 135 136 139 140 143 144 145 146 147 148 154 155 156 157 158 159 160 161 162 163 164 165"
            + " 166 168 169 170 172 173 174 175";
        for (int code = 77; code < 256; code++) {
            boolean among = (" " + known + " ").contains(" " + code + " ") || code > 81 && code <= 96;
            if (!among) {
                String other = String.format("#%02x", code);
                fails("1 1 1 " + other + " 1");
                fails("1 IF 1 1 1 " + other + " ENDIF 1");
                leaves("0 IF " + other + " ENDIF 1", "01");
            }
        }
    }

    private static void codeLimit() {
        leaves("1 NOP*201", "01");
        fails("1 NOP*202");
        leaves("16 NOP*201", "10");
        ends("NOP*201", "1 NOP*201", 2, "01");
        leaves("1 -1*9 2*9 DROP*18 NOP*183", "01");
        leaves("0 IF NOP*199 ENDIF 1", "01");
        fails("0 IF NOP*200 ENDIF 1");
        leaves("0 IF #ff*199 ENDIF 1", "01");
        fails("0 IF #ff*200 ENDIF 1");
        leaves("0 IF #50*300 1*300 ENDIF 1", "01");
        leaves("8 0 7 7 2 CHECKMULTISIG NOP*198", "01");
        fails("8 0 7 7 2 CHECKMULTISIG NOP*199");
        leaves("NOP*198 8 0 7 7 2 CHECKMULTISIG", "01");
        fails("NOP*199 8 0 7 7 2 CHECKMULTISIG");
        leaves("NOP*198 8 0 7 7 2 CHECKMULTISIGVERIFY 1", "01");
        fails("NOP*199 8 0 7 7 2 CHECKMULTISIGVERIFY 1");
        leaves("8 0 0 CHECKMULTISIG NOP*200", "01");
        leaves("0 IF 8 0 7 7 2 CHECKMULTISIG NOP*198 ENDIF 1", "01");
        ends("NOP*201", "8 0 7*9 9 CHECKMULTISIG", 2, "01");
    }

    private static void thingLimit() {
        String full = "01 ".repeat(199);
        leaves("1*200", full + "01");
        fails("1*201");
        fails("1*201 DROP");
        fails("1*150", "1*51");
        fails("0*201");
        fails("x05*201");
        fails("1*199 5 DUP");
        fails("1*199 2DUP");
        fails("1*200 2DUP");
        fails("1*200 OVER");
        fails("1*200 TUCK");
        fails("1*200 IFDUP");
        fails("1*200 SIZE");
        fails("1*200 DEPTH");
        leaves("1*198 2DUP", full + "01");
        leaves("1*199 0 IFDUP", full + "-");
        leaves("1*199 0 PICK", full + "01");
        leaves("1*199 5 ROLL", "01 ".repeat(198) + "01");
        leaves("1*200 SWAP ROT 1ADD", full + "02");
        leaves("1*200 TOALT*100 FROMALT*100", full + "01");
        leaves("1*200 TOALT*150", "01 ".repeat(49) + "01");
        fails("1*200 TOALT 1");
        fails("1*200 TOALT*100 1");
        fails("1*100 TOALT*100 1*101");
        fails("1*200 TOALT FROMALT 1 DROP");
        // The other stack is a new one for the second script.
        ends("1*200 TOALT*150", "1*150", 2, full + "01");
    }

    /** Many runs on one object: what one leaves does not come up in another. */
    private static void longRun() {
        ScriptDesk desk = new ScriptDesk();
        for (int i = 0; i < 40; i++) {
            Check.same("run " + i, Scripts.run(desk, "1 TOALT 5 0 IF", "ENDIF"), 0);
            Check.same("run on, " + i, Scripts.run(desk, "DEPTH 1ADD", "DEPTH"), 2);
            Check.same("stack " + i, Scripts.stack(desk), "01 01");
        }
    }
}
