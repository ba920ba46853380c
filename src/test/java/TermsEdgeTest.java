/** Every sentence of the terms that names an edge, one after the other: what a script does, and what fails it. */
final class TermsEdgeTest extends Runs {
    private static final String OF_ONE = "1ADD 1SUB NEGATE ABS NOT 0NOTEQUAL";
    private static final String OF_TWO = "ADD SUB BOOLAND BOOLOR NUMEQUAL NUMEQUALVERIFY NUMNOTEQUAL LESSTHAN"
        + " GREATERTHAN LESSTHANOREQUAL GREATERTHANOREQUAL MIN MAX";

    /** Operands on which a code ends, just as many as it needs, and the code. */
    private static final String[][] LEAST = {
        {"1", "VERIFY"}, {"1", "TOALT"}, {"1 1", "2DROP"}, {"1 1", "2DUP"}, {"1", "IFDUP"}, {"0", "IFDUP"},
        {"1", "DROP"}, {"1", "DUP"}, {"1 1", "NIP"}, {"1 1", "OVER"}, {"1 0", "PICK"}, {"1 0", "ROLL"},
        {"1 1 1", "ROT"}, {"1 1", "SWAP"}, {"1 1", "TUCK"}, {"1", "SIZE"}, {"1 1", "EQUAL"},
        {"1 1", "EQUALVERIFY"}, {"1", "1ADD"}, {"1", "1SUB"}, {"1", "NEGATE"}, {"1", "ABS"}, {"1", "NOT"},
        {"1", "0NOTEQUAL"}, {"1 1", "ADD"}, {"1 1", "SUB"}, {"1 1", "BOOLAND"}, {"1 1", "BOOLOR"},
        {"1 1", "NUMEQUAL"}, {"1 1", "NUMEQUALVERIFY"}, {"1 1", "NUMNOTEQUAL"}, {"1 1", "LESSTHAN"},
        {"1 1", "GREATERTHAN"}, {"1 1", "LESSTHANOREQUAL"}, {"1 1", "GREATERTHANOREQUAL"}, {"1 1", "MIN"},
        {"1 1", "MAX"}, {"1 1 1", "WITHIN"}, {"1", "RIPEMD160"}, {"1", "SHA256"}, {"1", "HASH160"},
        {"1", "HASH256"}, {"1 1", "CHECKSIG"}, {"0 0 0", "CHECKMULTISIG"}, {"0 0 0", "CHECKMULTISIGVERIFY"},
        {"0 0 1 1", "CHECKMULTISIG"}, {"0 1 1 1 1", "CHECKMULTISIG"}, {"0 0 1 1", "CHECKMULTISIGVERIFY"},
    };

    public static void main(String[] args) {
        otherStackEmptyAtFirst();
        pushesOfBytes();
        pushesByLength();
        pushesEndWithTheirScript();
        numbersByOneByte();
        ifsAreTaken();
        leastOperands();
        picked();
        equality();
        numbersAsBytes();
        sumsBeyondFourBytes();
        orderOfNumbers();
        noSignatureIsOne();
        oneThingMore();
        keysAndSignatures();
        othersFail();
        nothingIfNotTaken();
        pushesBeyondIfNotTaken();
        codesAreCounted();
        codesAreCountedIfNotTaken();
        codesOfOneScript();
        keysAreCounted();
        thingsOnTheStack();
        thingsOnBothStacks();
        thingsBetweenScripts();
        numbersOfFourBytes();
        longThingsThatAreNoNumbers();
        ifsWithoutEndif();
        elseAndEndifWithoutIf();
        Check.finish();
    }

    private static void otherStackEmptyAtFirst() {
        Check.about("another stack, which is empty at first for each script");
        fails("FROMALT");
        fails("1", "FROMALT");
        fails("1 2 TOALT", "FROMALT");
        ends("1 2 TOALT", "TOALT FROMALT", 2, "01");
        fails("1 2 TOALT", "TOALT FROMALT FROMALT");
        ScriptDesk desk = Scripts.ran("1 2 TOALT", "");
        Check.same("nor from the run before", Scripts.run(desk, "FROMALT", ""), 0);
    }

    private static void pushesOfBytes() {
        Check.about("0 to 75 push as many bytes");
        leaves("#00", "-");
        for (int bytes = 1; bytes <= 75; bytes++) {
            String code = String.format("#%02x", bytes);
            leaves(code + "ac".repeat(bytes), "ac".repeat(bytes));
            leaves(code + "ac".repeat(bytes) + " 1", "ac".repeat(bytes) + " 01");
            fails("1 " + code + "ac".repeat(bytes - 1));
        }
    }

    private static void pushesByLength() {
        Check.about("76 as many as the next byte says");
        leaves("#4c00", "-");
        leaves("#4c00 1", "- 01");
        fails("1 #4c");
        for (int bytes = 1; bytes <= 255; bytes++) {
            String code = String.format("#4c%02x", bytes);
            leaves(code + "51".repeat(bytes), "51".repeat(bytes));
            fails("1 " + code + "51".repeat(bytes - 1));
        }
        leaves("#4cff" + "51".repeat(255) + " 2", "51".repeat(255) + " 02");
    }

    private static void pushesEndWithTheirScript() {
        Check.about("A script is a row of bytes");
        fails("#01", "#51");
        fails("#0251", "#51");
        fails("#4c", "#01");
        fails("#4c", "#0051");
        fails("#4c01", "#51");
        fails("#4cff" + "51".repeat(254), "#51");
        ends("#0151", "#51", 2, "51 01");
        ends("#4c0151", "#51", 2, "51 01");
        // The last byte that a row can have, in both scripts: nothing behind it is looked at.
        String most = "x" + "01".repeat(255) + " DROP x" + "02".repeat(255) + " DROP x" + "03".repeat(255) + " DROP";
        fails(most, "x" + "04".repeat(222) + " 1 #4c");
        fails(most + " x" + "04".repeat(222) + " 1 #4c", "");
        ends(most, "x" + "04".repeat(221) + " #020506", 2, "04".repeat(221) + " 0506");
    }

    private static void numbersByOneByte() {
        Check.about("79 to 96 the numbers -1, 1 to 16 (79, 81 to 96)");
        leaves("#4f", "81");
        for (int number = 1; number <= 16; number++) {
            leaves(String.format("#%02x", 80 + number), String.format("%02x", number));
        }
        fails("#50");
        fails("1 #50 1");
        leaves("#60 #61", "10");
    }

    private static void ifsAreTaken() {
        Check.about("99 IF, 100 NOTIF, 103 ELSE, 104 ENDIF");
        String[] falses = {"0", "x00", "x80", "x0080", "x0000000080", "x" + "00".repeat(255)};
        for (String top : falses) {
            leaves("9 " + top + " IF 2 ELSE 3 ENDIF", "09 03");
            leaves("9 " + top + " NOTIF 2 ELSE 3 ENDIF", "09 02");
        }
        String[] trues = {"1", "-1", "x81", "x8000", "x0000000001", "x80" + "00".repeat(254)};
        for (String top : trues) {
            leaves("9 " + top + " IF 2 ELSE 3 ENDIF", "09 02");
            leaves("9 " + top + " NOTIF 2 ELSE 3 ENDIF", "09 03");
        }
        for (String code : new String[] {"IF", "NOTIF"}) {
            fails(code);
            fails(code + " 1");
            fails(code + " ENDIF 1");
            fails("1 TOALT " + code + " ENDIF 1");
        }
        leaves("0 IF IF ENDIF NOTIF ENDIF ENDIF 1", "01");
        leaves("1*100 IF*100 ENDIF*100", "");
        leaves("0 1*99 IF*100 2 ELSE 3 ENDIF*100", "03");
        leaves("1*99 0 IF*100 2 ELSE 3 ENDIF*100", "01 ".repeat(98) + "01");
        leaves("1 IF ELSE*198 2 ENDIF", "02");
        leaves("1 IF ELSE*199 ENDIF 2", "02");
        leaves("0 IF ELSE*198 2 ENDIF 3", "03");
    }

    private static void leastOperands() {
        Check.about("all as Bitcoin's");
        for (String[] pair : LEAST) {
            Check.same(pair[0] + " " + pair[1], Scripts.run(new ScriptDesk(), pair[0] + " " + pair[1], "1"), 2);
            Check.same(pair[1] + " on the first one's", Scripts.run(new ScriptDesk(), pair[0], pair[1] + " 1"), 2);
            String fewer = pair[0].substring(pair[0].indexOf(' ') + 1);
            String least = fewer.equals(pair[0]) ? "" : fewer;
            fails(least + " " + pair[1] + " 1");
            fails(least, pair[1] + " 1");
            fails("1 1 1 TOALT*3 " + least + " " + pair[1] + " 1");
            fails(pair[1] + " 1");
        }
        leaves("NOP", "");
        leaves("DEPTH", "-");
        leaves("5 6 2DUP", "05 06 05 06");
        leaves("5 6 NIP", "06");
        leaves("5 6 OVER", "05 06 05");
        leaves("5 6 7 ROT", "06 07 05");
        leaves("5 6 SWAP", "06 05");
        leaves("5 6 TUCK", "06 05 06");
        fails("VERIFY");
        fails("0 VERIFY");
        fails("x80 VERIFY");
        fails("1 2 EQUALVERIFY");
        fails("1 2 NUMEQUALVERIFY");
        fails("RETURN");
    }

    private static void picked() {
        Check.about("121 PICK, 122 ROLL");
        leaves("5 6 7 0 PICK", "05 06 07 07");
        leaves("5 6 7 2 PICK", "05 06 07 05");
        leaves("5 6 7 0 ROLL", "05 06 07");
        leaves("5 6 7 2 ROLL", "06 07 05");
        leaves("5 6 7 x02000000 PICK", "05 06 07 05");
        leaves("5 6 7 x00000080 ROLL", "05 06 07");
        leaves("5 1*198 xc600 PICK", "05 " + "01 ".repeat(198) + "05");
        leaves("5 1*198 xc600 ROLL", "01 ".repeat(198) + "05");
        for (String code : new String[] {"PICK", "ROLL"}) {
            fails("5 6 7 3 " + code);
            fails("5 6 7 -1 " + code);
            fails("5 6 7 x00000000 DROP x0000000000 " + code);
            fails("5 6 7 xffffff7f " + code);
            fails("5 6 7 xffffffff " + code);
            fails("5 6 7 x0300 " + code);
            fails("5 1*198 xc700 " + code);
        }
    }

    private static void equality() {
        Check.about("135 EQUAL, 136 its VERIFY");
        String longest = "x" + "01".repeat(255);
        String[] same = {"0 0", "0 #4c00", "5 x05", "-1 x81", "x00 x00", longest + " " + longest};
        for (String pair : same) {
            leaves(pair + " EQUAL", "01");
            leaves(pair + " EQUALVERIFY", "");
        }
        String[] apart = {"0 x00", "0 x80", "x00 x80", "5 x0500", "x0500 5", "x0102 x0103", "x0102 x0202",
            longest + " x" + "01".repeat(254), longest + " x" + "01".repeat(254) + "02"};
        for (String pair : apart) {
            leaves(pair + " EQUAL", "-");
            fails(pair + " EQUALVERIFY");
        }
    }

    private static void numbersAsBytes() {
        Check.about("numbers, all as Bitcoin's");
        // Each is one from the next: where one byte more begins, and where the sign takes one.
        counts("-", "01", "81", "-");
        counts("7e", "7f", "fe", "ff");
        counts("7f", "8000", "ff", "8080");
        counts("fe00", "ff00", "fe80", "ff80");
        counts("ff00", "0001", "ff80", "0081");
        counts("fe7f", "ff7f", "feff", "ffff");
        counts("ff7f", "008000", "ffff", "008080");
        counts("ffff00", "000001", "ffff80", "000081");
        counts("feff7f", "ffff7f", "feffff", "ffffff");
        counts("ffff7f", "00008000", "ffffff", "00008080");
        counts("ffffff00", "00000001", "ffffff80", "00000081");
        counts("feffff7f", "ffffff7f", "feffffff", "ffffffff");
        leaves("x0000 1ADD", "01");
        leaves("x00000080 1ADD", "01");
        leaves("x80 1SUB", "81");
        leaves("x05000000 1ADD", "06");
        leaves("x05000080 1ADD", "84");
        leaves("x7f00 NEGATE", "ff");
        leaves("x00000000 ABS", "-");
        leaves("1 1SUB", "-");
        leaves("x81 1ADD", "-");
    }

    /** A number and the next one above 0, and the same two below 0. */
    private static void counts(String from, String to, String fromBelow, String toBelow) {
        leaves(pushed(from) + " 1ADD", to);
        leaves(pushed(to) + " 1SUB", from);
        leaves(pushed(from) + " 1 ADD", to);
        leaves(pushed(to) + " 1 SUB", from);
        if (!toBelow.equals("-")) {
            leaves(pushed(fromBelow) + " 1SUB", toBelow);
            leaves(pushed(toBelow) + " 1ADD", fromBelow);
            leaves(pushed(to) + " NEGATE", toBelow);
            leaves(pushed(toBelow) + " NEGATE", to);
            leaves(pushed(toBelow) + " ABS", to);
            leaves(pushed(to) + " ABS", to);
        }
    }

    private static String pushed(String thing) {
        return thing.equals("-") ? "0" : "x" + thing;
    }

    private static void sumsBeyondFourBytes() {
        Check.about("139 1ADD, 140 1SUB, 147 ADD, 148 SUB: nothing wraps around");
        leaves("xffffff7f 1ADD", "0000008000");
        leaves("xffffffff 1SUB", "0000008080");
        leaves("xffffff7f 1 ADD", "0000008000");
        leaves("xffffffff -1 ADD", "0000008080");
        leaves("xffffffff 1 SUB", "0000008080");
        leaves("xffffff7f -1 SUB", "0000008000");
        leaves("xffffff7f xffffff7f ADD", "feffffff00");
        leaves("xffffffff xffffffff ADD", "feffffff80");
        leaves("xffffff7f xffffffff SUB", "feffffff00");
        leaves("xffffffff xffffff7f SUB", "feffffff80");
        leaves("xffffff7f xffffffff ADD", "-");
        leaves("xffffff7f xffffff7f SUB", "-");
        leaves("xffffff7f NEGATE", "ffffffff");
        leaves("xffffffff NEGATE", "ffffff7f");
        leaves("xffffffff ABS", "ffffff7f");
        fails("xffffff7f 1ADD 1SUB");
        fails("xffffffff 1SUB ABS");
        fails("xffffff7f 1 ADD 1 SUB");
    }

    private static void orderOfNumbers() {
        Check.about("159 LESSTHAN, 160 GREATERTHAN, 161, 162 the same or equal, 163 MIN, 164 MAX, 165 WITHIN");
        String[] numbers = {"xffffffff", "xfeffffff", "x0080", "-1", "0", "1", "2", "x7f", "x8000", "xfeffff7f",
            "xffffff7f"};
        int[] ranks = {0, 1, 3, 2, 3, 4, 5, 6, 7, 8, 9};
        for (int a = 0; a < numbers.length; a++) {
            for (int b = 0; b < numbers.length; b++) {
                String pair = numbers[a] + " " + numbers[b] + " ";
                truth(pair + "LESSTHAN", ranks[a] < ranks[b]);
                truth(pair + "GREATERTHAN", ranks[a] > ranks[b]);
                truth(pair + "LESSTHANOREQUAL", ranks[a] <= ranks[b]);
                truth(pair + "GREATERTHANOREQUAL", ranks[a] >= ranks[b]);
                truth(pair + "NUMEQUAL", ranks[a] == ranks[b]);
                truth(pair + "NUMNOTEQUAL", ranks[a] != ranks[b]);
                truth(pair + "MIN " + numbers[ranks[a] < ranks[b] ? a : b] + " NUMEQUAL", true);
                truth(pair + "MAX " + numbers[ranks[a] > ranks[b] ? a : b] + " NUMEQUAL", true);
                truth(pair + "BOOLAND", ranks[a] != 3 && ranks[b] != 3);
                truth(pair + "BOOLOR", ranks[a] != 3 || ranks[b] != 3);
                for (int x = 0; x < numbers.length; x++) {
                    boolean in = ranks[a] <= ranks[x] && ranks[x] < ranks[b];
                    truth(numbers[x] + " " + pair + "WITHIN", in);
                }
            }
        }
    }

    private static void truth(String script, boolean due) {
        leaves(script, due ? "01" : "-");
    }

    private static void noSignatureIsOne() {
        Check.about("but that no signature is one");
        String longest = "x" + "30".repeat(72) + " x02" + "11".repeat(32);
        for (String pair : new String[] {"0 0", "1 1", "0 1", "1 0", longest}) {
            leaves("9 " + pair + " CHECKSIG", "09 -");
            fails("9 " + pair + " CHECKSIGVERIFY");
            fails("9 " + pair + " CHECKSIGVERIFY 1");
        }
        for (int asked = 0; asked <= 3; asked++) {
            String script = "9 0 6*" + asked + " " + asked + " 7 7 7 3 ";
            leaves(script + "CHECKMULTISIG", asked == 0 ? "09 01" : "09 -");
            if (asked == 0) {
                leaves(script + "CHECKMULTISIGVERIFY", "09");
            } else {
                fails(script + "CHECKMULTISIGVERIFY 1");
            }
        }
        leaves("9 0 0*2 2 7 7 2 CHECKMULTISIG", "09 -");
    }

    private static void oneThingMore() {
        Check.about("CHECKMULTISIG takes one THING more, whatever it is");
        String[] more = {"0", "1", "-1", "x80", "x0102030405", "x" + "ff".repeat(255)};
        for (String thing : more) {
            leaves("9 " + thing + " 0 0 CHECKMULTISIG", "09 01");
            leaves("9 " + thing + " 0 0 CHECKMULTISIGVERIFY", "09");
            leaves("9 " + thing + " 0 7 7 2 CHECKMULTISIG", "09 01");
            leaves("9 " + thing + " 6 1 7 7 2 CHECKMULTISIG", "09 -");
        }
        for (String code : new String[] {"CHECKMULTISIG", "CHECKMULTISIGVERIFY"}) {
            fails("0 0 " + code + " 1");
            fails("0 7 7 2 " + code + " 1");
            fails("6 1 7 7 2 " + code + " 1");
        }
    }

    private static void keysAndSignatures() {
        Check.about("174 CHECKMULTISIG, 175 its VERIFY: all as Bitcoin's");
        for (int keys = 0; keys <= 20; keys++) {
            String number = keys <= 16 ? "" + keys : String.format("x%02x", keys);
            leaves("9 8 0 7*" + keys + " " + number + " CHECKMULTISIG", "09 01");
            leaves("9 8 0 7*" + keys + " " + number + " CHECKMULTISIGVERIFY", "09");
            String asked = " " + number + " 7*" + keys + " " + number + " CHECKMULTISIG";
            leaves("9 8 6*" + keys + asked, keys == 0 ? "09 01" : "09 -");
            String above = String.format(" x%02x 7*%d %s ", keys + 1, keys, number);
            fails("9 8 6*" + (keys + 1) + above + "CHECKMULTISIG");
            fails("9 8 6*" + (keys + 1) + above + "CHECKMULTISIGVERIFY");
        }
        for (String code : new String[] {"CHECKMULTISIG", "CHECKMULTISIGVERIFY"}) {
            fails("9*30 0 7*21 x15 " + code);
            fails("9*30 0 7*20 xffffff7f " + code);
            fails("9*30 0 7*20 -1 " + code);
            fails("9*30 -1 7*20 x14 " + code);
            fails("9*30 xffffffff 7*20 x14 " + code);
            fails("9*30 xffffff7f 7*20 x14 " + code);
        }
        leaves("9 8 x00000080 7 7 x02000000 CHECKMULTISIG", "09 01");
        leaves("9 8 x0102030405 1 x0102030405 1 CHECKMULTISIG", "09 -");
    }

    private static boolean isOther(int code) {
        String known = " 79 97 99 100 103 104 105 107 108 109 110 115 116 117 118 119 120 121 122 123 124 125 130"
            + " 135 136 139 140 143 144 145 146 147 148 154 155 156 157 158 159 160 161 162 163 164 165 166 168"
            + " 169 170 172 173 174 175 ";
        return code > 76 && !known.contains(" " + code + " ") && !(code >= 81 && code <= 96);
    }

    private static void othersFail() {
        Check.about("Others fail, if they are reached");
        int others = 0;
        for (int code = 0; code < 256; code++) {
            if (isOther(code)) {
                others++;
                String other = String.format("#%02x", code);
                fails(other);
                fails("1 1 1 1 " + other);
                fails("1 1 1 1 " + other + " 1");
                fails("1 1 IF " + other + " ENDIF");
                fails("1 0 IF ELSE " + other + " ENDIF");
                fails("1 0 IF ENDIF " + other);
            }
        }
        // 77, 78, 80, 98 and so on: 256 less 77 pushes, 17 numbers, RETURN and the 52 that do something.
        Check.same("how many others, RETURN with them", others, 110);
    }

    private static void nothingIfNotTaken() {
        Check.about("in an IF that is not taken they are nothing");
        for (int code = 77; code < 256; code++) {
            if (code != 99 && code != 100 && code != 103 && code != 104) {
                String any = String.format("#%02x", code);
                leaves("5 0 IF " + any + " ENDIF", "05");
                leaves("5 1 NOTIF " + any + " ELSE 6 ENDIF", "05 06");
                leaves("5 1 IF 6 ELSE " + any + " ENDIF", "05 06");
                leaves("5 0 IF 1 IF " + any + " ELSE " + any + " ENDIF " + any + " ENDIF", "05");
            }
        }
        leaves("5 0 IF 0 1 2 x0102 #4c03686868 ENDIF", "05");
    }

    private static void pushesBeyondIfNotTaken() {
        Check.about("but for pushes beyond the end, which fail");
        for (int bytes = 1; bytes <= 75; bytes++) {
            String code = String.format("#%02x", bytes);
            leaves("5 0 IF " + code + "68".repeat(bytes) + " ENDIF", "05");
            fails("5 0 IF " + code + "68".repeat(bytes - 1));
        }
        for (int bytes : new int[] {1, 2, 75, 76, 104, 254, 255}) {
            String code = String.format("#4c%02x", bytes);
            leaves("5 0 IF " + code + "68".repeat(bytes) + " ENDIF", "05");
            fails("5 0 IF " + code + "68".repeat(bytes - 1));
        }
        leaves("5 0 IF #4c00 ENDIF", "05");
        fails("5 0 IF ENDIF 0 IF #4c");
        fails("5 0 IF #02 ENDIF");
        fails("5 0 IF #4c01");
        fails("5 0 IF #05", "ENDIF 1 1 1 1 1");
    }

    private static void codesAreCounted() {
        Check.about("It fails, too, with more than 201 of them above 96 in one script");
        leaves("1 NOP*201", "01");
        fails("1 NOP*202");
        fails("NOP*202 1");
        fails("NOP*900");
        for (String[] pair : LEAST) {
            if (!pair[1].startsWith("CHECKMULTISIG")) {
                String script = pair[0] + " " + pair[1] + " 1 NOP*";
                Check.same(script + 200, Scripts.run(new ScriptDesk(), script + 200, ""), 2);
                Check.same(script + 200 + ", second", Scripts.run(new ScriptDesk(), "", script + 200), 2);
                fails(script + 201);
                fails("NOP*201 " + pair[0] + " " + pair[1] + " 1");
            }
        }
        leaves("DEPTH NOP*200", "-");
        fails("DEPTH NOP*201");
        leaves("1 TOALT FROMALT NOP*199", "01");
        fails("1 TOALT FROMALT NOP*200");
        // Pushes and numbers are 96 at most, and do not count.
        leaves("16*50 -1*50 0*50 x0102*25 #4c0103*25 NOP*201", "10 ".repeat(50) + "81 ".repeat(50)
            + "- ".repeat(50) + "0102 ".repeat(25) + "03 ".repeat(24) + "03");
    }

    private static void codesAreCountedIfNotTaken() {
        Check.about("also in an IF that is not taken");
        for (int code = 97; code < 256; code++) {
            if (code != 99 && code != 100 && code != 103 && code != 104) {
                String any = String.format("#%02x", code);
                leaves("5 0 IF " + any + "*199 ENDIF", "05");
                fails("5 0 IF " + any + "*200 ENDIF");
            }
        }
        leaves("5 1 IF ENDIF NOP*199", "05");
        fails("5 1 IF ENDIF NOP*200");
        leaves("5 1 NOTIF ELSE ENDIF NOP*198", "05");
        fails("5 1 NOTIF ELSE ENDIF NOP*199");
        leaves("5 0 IF IF NOTIF ENDIF ELSE ENDIF NOP*194 ENDIF", "05");
        fails("5 0 IF IF NOTIF ENDIF ELSE ENDIF NOP*195 ENDIF");
        leaves("5 0 IF NOP*100 ELSE NOP*98 ENDIF", "05");
        fails("5 0 IF NOP*100 ELSE NOP*99 ENDIF");
        for (int code = 77; code <= 96; code++) {
            leaves("5 0 IF " + String.format("#%02x", code) + "*202 NOP*199 ENDIF", "05");
        }
        leaves("5 0 IF 0*202 #0161*202 NOP*199 ENDIF", "05");
    }

    private static void codesOfOneScript() {
        Check.about("in one script");
        ends("1 NOP*201", "NOP*201", 2, "01");
        ends("1 NOP*201", "NOP", 2, "01");
        fails("1 NOP*202", "NOP");
        fails("1", "NOP*202");
        fails("1 NOP*201", "NOP*202");
        ScriptDesk desk = new ScriptDesk();
        Check.same("202, fails", Scripts.run(desk, "NOP*202", ""), 0);
        Check.same("201 in the run behind it", Scripts.run(desk, "1", "NOP*201"), 2);
        ends("NOP*201", "8 0 7*20 x14 CHECKMULTISIG NOP*180", 2, "01");
        fails("NOP*201", "8 0 7*20 x14 CHECKMULTISIG NOP*181");
    }

    private static void keysAreCounted() {
        Check.about("CHECKMULTISIG counts its keys, too");
        for (int keys = 0; keys <= 20; keys++) {
            String script = String.format("8 0 7*%d %s ", keys, keys == 0 ? "0" : String.format("x%02x", keys));
            leaves(script + "CHECKMULTISIG NOP*" + (200 - keys), "01");
            fails(script + "CHECKMULTISIG NOP*" + (201 - keys));
            leaves("NOP*" + (200 - keys) + " " + script + "CHECKMULTISIG", "01");
            fails("NOP*" + (201 - keys) + " " + script + "CHECKMULTISIG");
            leaves("NOP*" + (200 - keys) + " " + script + "CHECKMULTISIGVERIFY 1", "01");
            fails("NOP*" + (201 - keys) + " " + script + "CHECKMULTISIGVERIFY 1");
        }
        // Not the signatures; not where it is not reached; and each time anew.
        leaves("8 6*20 x14 7*20 x14 CHECKMULTISIG NOP*180", "-");
        fails("8 6*20 x14 7*20 x14 CHECKMULTISIG NOP*181");
        leaves("5 0 IF 8 0 7*20 x14 CHECKMULTISIG NOP*198 ENDIF", "05");
        fails("5 0 IF 8 0 7*20 x14 CHECKMULTISIG NOP*199 ENDIF");
        String often = "8 0 7*20 x14 CHECKMULTISIG ".repeat(9);
        leaves(often + "NOP*12", "01 ".repeat(8) + "01");
        fails(often + "NOP*13");
    }

    private static void thingsOnTheStack() {
        Check.about("more than 200 THINGS");
        String most = "01 ".repeat(199);
        for (String push : new String[] {"0", "1", "-1", "16", "x05", "#4c00", "#4c0105", "DEPTH", "DUP", "OVER",
            "IFDUP", "SIZE", "TUCK"}) {
            Check.same(push + " to 200", Scripts.ran("1*199 " + push, "").depth(), 200);
            Check.same(push + " to 200, second", Scripts.ran("1*199", push).depth(), 200);
            fails("1*200 " + push);
            fails("1*200", push);
            fails("1*200 " + push + " DROP 1");
        }
        Check.same("2DUP to 200", Scripts.ran("1*198 2DUP", "").depth(), 200);
        fails("1*199 2DUP");
        fails("1*200 2DUP");
        fails("1*199 2DUP 2DROP");
        // What takes as many as it brings may be used with 200, and so may what is not taken.
        leaves("1*200 NOP SWAP ROT 1ADD NEGATE ABS", most + "02");
        leaves("1*199 0 IFDUP", most + "-");
        leaves("1*199 2 PICK", most + "01");
        leaves("1*199 2 ROLL", most.substring(3) + "01");
        leaves("1*199 0 IF 1*50 DUP*50 ENDIF", most.trim());
        leaves("1*199 1 RIPEMD160 DROP", most.trim());
    }

    private static void thingsOnBothStacks() {
        Check.about("on both stacks");
        for (int other : new int[] {1, 2, 99, 100, 101, 198, 199}) {
            String script = "1*" + other + " TOALT*" + other + " 1*" + (200 - other);
            Check.same(script, Scripts.ran(script, "").depth(), 200 - other);
            Check.same(script + ", second", Scripts.ran("", script).depth(), 200 - other);
            fails(script + " 1");
            fails(script + " 1 DROP");
            fails(script + " DUP");
        }
        Check.same("200 over, by one", Scripts.run(new ScriptDesk(), "1*200 TOALT*200", ""), 1);
        fails("1*200 TOALT*200 1");
        fails("1*200 TOALT 1");
        fails("1*200 TOALT FROMALT 1");
        fails("1*199 TOALT 2DUP");
        leaves("1*200 TOALT*100 FROMALT*100", "01 ".repeat(199) + "01");
        leaves("1*200 TOALT DROP 1", "01 ".repeat(198) + "01");
    }

    private static void thingsBetweenScripts() {
        Check.about("200 THINGS, where the second script begins");
        Check.same("200 and nothing", Scripts.ran("1*200", "NOP").depth(), 200);
        Check.same("200 and one less and one more", Scripts.ran("1*200", "DROP 1").depth(), 200);
        Check.same("one more for one that is gone with the other stack", Scripts.ran("1*200 TOALT", "1").depth(), 200);
        fails("1*200 TOALT", "1 1");
        fails("1*200 TOALT", "TOALT 1 1");
        fails("1*200", "TOALT 1");
        fails("1*201", "DROP");
        ScriptDesk desk = new ScriptDesk();
        Check.same("201, fails", Scripts.run(desk, "1*100 TOALT*50", "1*151"), 0);
        Check.same("200 in the run behind it", Scripts.run(desk, "1*200", ""), 2);
        Check.same("depth", desk.depth(), 200);
    }

    private static void numbersOfFourBytes() {
        Check.about("numbers of more than 4 bytes");
        String four = "x01000000";
        for (String five : new String[] {"x0100000000", "x0000000000", "x0000000080", "x" + "01".repeat(255)}) {
            for (String code : OF_ONE.split(" ")) {
                Check.same(code, Scripts.run(new ScriptDesk(), four + " " + code, "1"), 2);
                fails(five + " " + code);
            }
            for (String code : OF_TWO.split(" ")) {
                Check.same(code, Scripts.run(new ScriptDesk(), four + " " + four + " " + code, "1"), 2);
                fails("1 " + five + " " + code);
                fails(five + " 1 " + code);
                fails("0 " + five + " " + code);
                fails(five + " 0 " + code);
            }
            leaves(four + " " + four + " x02000000 WITHIN", "01");
            fails(five + " 1 1 WITHIN");
            fails("1 " + five + " 1 WITHIN");
            fails("1 1 " + five + " WITHIN");
            fails("1 1 1 " + five + " PICK");
            fails("1 1 1 " + five + " ROLL");
            fails("1 1 1 0 1 " + five + " CHECKMULTISIG");
            fails("1 1 1 " + five + " 0 CHECKMULTISIG");
            fails("1 1 1 " + five + " 0 CHECKMULTISIGVERIFY");
            fails("1 1 1 " + five + " CHECKMULTISIGVERIFY");
        }
    }

    private static void longThingsThatAreNoNumbers() {
        Check.about("numbers of more than 4 bytes: only where a number is asked for");
        String five = "x0100000000";
        String bytes = "0100000000";
        leaves(five + " NOP", bytes);
        leaves(five + " DUP 2DUP 2DROP EQUAL", "01");
        leaves(five + " " + five + " EQUALVERIFY", "");
        leaves(five + " VERIFY", "");
        leaves(five + " IF 1 ENDIF", "01");
        leaves(five + " NOTIF 1 ENDIF", "");
        leaves(five + " IFDUP", bytes + " " + bytes);
        leaves(five + " SIZE", bytes + " 05");
        leaves(five + " TOALT FROMALT", bytes);
        leaves(five + " 0 PICK", bytes + " " + bytes);
        leaves(five + " 1 SWAP 1 ROLL", bytes + " 01");
        leaves(five + " " + five + " CHECKSIG", "-");
        leaves(five + " RIPEMD160 SIZE NIP", "14");
        // One that lies below the operands is none of them.
        for (String[] pair : LEAST) {
            int answer = Scripts.run(new ScriptDesk(), five + " " + pair[0], pair[1] + " 1");
            Check.same(five + " below " + pair[1], answer, 2);
        }
    }

    private static void ifsWithoutEndif() {
        Check.about("an IF without its ENDIF in the same script");
        for (String code : new String[] {"IF", "NOTIF"}) {
            for (String top : new String[] {"0", "1"}) {
                String open = top + " " + code;
                leaves("5 " + open + " ENDIF", "05");
                fails("5 " + open);
                fails("5 " + open + " 1");
                fails("5 " + open + " ELSE 1");
                fails("5 " + open + " ELSE ELSE");
                fails("5 " + open + " 0 IF ENDIF 1");
                fails("5 " + open + " #0168");
                fails("5 " + open, "ENDIF");
                fails("5 " + open + " 1", "ELSE 1 ENDIF");
                fails("5 " + open, "1 IF ENDIF ENDIF");
            }
        }
        fails("1*60 IF*60 ENDIF*59 1");
        leaves("1*60 IF*60 ENDIF*60 1", "01");
        // What stayed open does not reach into the run behind the failure.
        for (String open : new String[] {"0 IF", "1 IF", "0 IF IF"}) {
            ScriptDesk desk = new ScriptDesk();
            Check.same(open, Scripts.run(desk, open, ""), 0);
            Check.same("a run behind it", Scripts.run(desk, "1", "2"), 2);
            Check.same("stack", Scripts.stack(desk), "01 02");
            Check.same("again", Scripts.run(desk, "1", open), 0);
            Check.same("ENDIF alone behind it", Scripts.run(desk, "1 ENDIF", ""), 0);
            Check.same("stack stays", Scripts.stack(desk), "01 02");
        }
    }

    private static void elseAndEndifWithoutIf() {
        Check.about("ELSE or ENDIF without IF");
        for (String code : new String[] {"ELSE", "ENDIF"}) {
            fails(code);
            fails("1 " + code);
            fails(code + " 1");
            fails(code + " 1 IF ENDIF");
            fails("1 1 IF ENDIF " + code);
            fails("1 0 IF ENDIF " + code);
            fails("1 0 IF ELSE ENDIF " + code + " 1");
            fails("1*3 IF*2 ENDIF*2 " + code);
            fails("1 1 IF ENDIF", code);
            fails("1 1 IF 1", code + " ENDIF");
        }
        fails("1 ELSE ENDIF");
        leaves("1 IF ELSE ELSE ENDIF 1", "01");
    }
}
