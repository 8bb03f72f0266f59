import java.util.NoSuchElementException;

/** The bounds that "Terms" names outside the handshake: a test for each sentence, on both sides of its bound. */
public final class BoundsOfTermsTest {
    private static final Check check = new Check();
    private static final Class<IllegalArgumentException> ARGUMENT = IllegalArgumentException.class;
    private static final Class<IllegalStateException> STATE = IllegalStateException.class;
    private static final String FIFTEEN = "abcdefghijklmno";

    public static void main(String[] args) {
        check.sentence("An object is used for at most 512 calls after it has been made", BoundsOfTermsTest::call512);
        check.sentence("BYTES are 0 .. 255.", BoundsOfTermsTest::bytes);
        check.sentence("CONNECTIONS are 0 .. 3", BoundsOfTermsTest::connections);
        check.sentence("each has a STATE: 0 FREE (at first), .. 6 ENDED", BoundsOfTermsTest::states);
        check.sentence("RINGS of at most 16 bytes, UP", BoundsOfTermsTest::upHolds16);
        check.sentence("RINGS of at most 16 bytes, DOWN", BoundsOfTermsTest::downHolds16);
        check.sentence("RINGS (UP goes round)", BoundsOfTermsTest::upGoesRound);
        check.sentence("RINGS (DOWN goes round)", BoundsOfTermsTest::downGoesRound);
        check.sentence("an ADDRESS (an int, its bytes from the highest one on)", BoundsOfTermsTest::addressBytes);
        check.sentence("a NAME (1 to 15 characters", BoundsOfTermsTest::nameLengths);
        check.sentence("each a small letter, a digit, . or - )", BoundsOfTermsTest::nameCharacters);
        check.sentence("a port 0 .. 65535", BoundsOfTermsTest::ports);
        check.sentence("four numbers with dots between", BoundsOfTermsTest::fourNumbers);
        check.sentence("each of one to three digits", BoundsOfTermsTest::oneToThreeDigits);
        check.sentence("and at most 255, is an address instead", BoundsOfTermsTest::atMost255);
        check.sentence("RULES are a list of at most 8.", BoundsOfTermsTest::eightRules);
        check.sentence("MEANT for a goal whose port is among these", BoundsOfTermsTest::lowToHigh);
        check.sentence("0: any.", BoundsOfTermsTest::anyGoal);
        check.sentence("1: an address whose highest BITS bits are those of the rule's.", BoundsOfTermsTest::bits);
        check.sentence("2: a name that is the rule's, or ends by a dot and the rule's.", BoundsOfTermsTest::names);
        check.sentence("The first rule that is meant for a goal decides", BoundsOfTermsTest::firstRule);
        check.sentence("without one it is not let through", BoundsOfTermsTest::noRule);
        check.sentence("ACCOUNTS are at most three, each with a user and a password.",
                BoundsOfTermsTest::threeAccounts);
        check.sentence("CONNECTING comes to an end by connected()", BoundsOfTermsTest::endOfConnecting);
        check.sentence("In both of these states the client's bytes go into UP", BoundsOfTermsTest::intoUp);
        check.sentence("in RELAYING the target's into DOWN", BoundsOfTermsTest::intoDown);
        check.sentence("A side that FINISHED sends no more.", BoundsOfTermsTest::finishedSends);
        check.sentence("When both have finished in RELAYING and both rings are empty, the connection is ended.",
                BoundsOfTermsTest::bothFinished);
        check.sentence("When it is ended in any way, UP is empty; what is in DOWN can still be taken.",
                BoundsOfTermsTest::endedInAnyWay);
        check.end("BoundsOfTermsTest");
    }

    /** Calls 1 to 511 fill and empty a ring again and again; the last ones still answer as the first ones. */
    private static void call512() {
        TunnelDesk desk = new TunnelDesk();
        desk.rule(true, 0, 0, 0, 0, 65535);
        int c = Drive.connecting(desk);
        desk.connected(c, true);
        for (int calls = 16; calls < 510; calls += 2) {
            check.due("a byte, call " + calls, true, desk.send(c, calls & 255));
            check.due("it comes up", calls & 255, desk.up(c));
        }
        check.due("call 511", 50, desk.down(c));
        check.due("call 512", 48, desk.down(c));
    }

    private static void bytes() {
        TunnelDesk desk = Drive.lettingAll();
        int c = Drive.relaying(desk);
        for (int b : new int[] {0, 255}) {
            check.due("send " + b, true, desk.send(c, b));
            check.due("give " + b, true, desk.give(c, b));
            check.due("up", b, desk.up(c));
            check.due("down", b, desk.down(c));
        }
        for (int b : new int[] {-1, 256}) {
            check.refused(desk, "send " + b, ARGUMENT, () -> desk.send(c, b));
            check.refused(desk, "give " + b, ARGUMENT, () -> desk.give(c, b));
        }
        // 261 and -251 are 5 in their low eight bits, by which a greeting begins.
        for (int b : new int[] {261, -251, 'C' + 256}) {
            TunnelDesk other = new TunnelDesk();
            other.open();
            check.refused(other, "send " + b + " in the handshake", ARGUMENT, () -> other.send(0, b));
            other.send(0, 5);
            check.due("the first byte is still to come", 1, other.about(0, 0));
        }
    }

    private static void connections() {
        TunnelDesk desk = new TunnelDesk();
        for (int c = 0; c < 4; c++) {
            check.due("open", c, desk.open());
        }
        for (int c : new int[] {0, 3}) {
            check.due("about " + c, 1, desk.about(c, 0));
            check.due("up " + c, TunnelDesk.NONE, desk.up(c));
            check.due("down " + c, TunnelDesk.NONE, desk.down(c));
        }
        for (int c : new int[] {-1, 4}) {
            check.refused(desk, "about " + c, NoSuchElementException.class, () -> desk.about(c, 0));
            check.refused(desk, "up " + c, NoSuchElementException.class, () -> desk.up(c));
        }
    }

    private static void states() {
        TunnelDesk desk = Drive.lettingAll();
        Drive.account(desk, "ab.c1");
        check.due("FREE at first", 0, desk.about(0, 0));
        desk.open();
        check.due("GREETING", 1, desk.about(0, 0));
        Drive.send(desk, 0, 5, 1, 2);
        check.due("PASSWORD", 2, desk.about(0, 0));
        Drive.send(desk, 0, Drive.LOGIN_AB_C1);
        check.due("REQUEST", 3, desk.about(0, 0));
        Drive.sendName(desk, 0, 1, "a", 1);
        check.due("CONNECTING", 4, desk.about(0, 0));
        desk.connected(0, true);
        check.due("RELAYING", 5, desk.about(0, 0));
        Drive.ticks(desk, 30);
        check.due("ENDED", 6, desk.about(0, 0));
        desk.free(0);
        check.due("FREE again", 0, desk.about(0, 0));
    }

    private static void upHolds16() {
        TunnelDesk desk = Drive.lettingAll();
        int c = Drive.relaying(desk);
        for (int i = 1; i <= 16; i++) {
            check.due("byte " + i, true, desk.send(c, i));
            check.due("how many there are", i, desk.about(c, 1));
        }
        check.due("byte 17", false, desk.send(c, 17));
        check.due("byte 17 again", false, desk.send(c, 17));
        check.due("16 stay", 16, desk.about(c, 1));
        check.due("DOWN has room of its own", true, desk.give(c, 1));
        check.due("the first one", 1, desk.up(c));
        check.due("byte 17 comes again", true, desk.send(c, 17));
        check.due("byte 18", false, desk.send(c, 18));
        check.due("all of them", "2 3 4 5 6 7 8 9 10 11 12 13 14 15 16 17 -1", Drive.up(desk, c));
    }

    private static void downHolds16() {
        TunnelDesk desk = Drive.lettingAll();
        int c = Drive.relaying(desk);
        for (int i = 1; i <= 16; i++) {
            check.due("byte " + i, true, desk.give(c, i));
            check.due("how many there are", i, desk.about(c, 2));
        }
        check.due("byte 17", false, desk.give(c, 17));
        check.due("byte 17 again", false, desk.give(c, 17));
        check.due("16 stay", 16, desk.about(c, 2));
        check.due("UP has room of its own", true, desk.send(c, 1));
        check.due("the first one", 1, desk.down(c));
        check.due("byte 17 comes again", true, desk.give(c, 17));
        check.due("byte 18", false, desk.give(c, 18));
        check.due("all of them", "2 3 4 5 6 7 8 9 10 11 12 13 14 15 16 17 -1", Drive.down(desk, c));
    }

    private static void upGoesRound() {
        for (int start = 0; start <= 17; start++) {
            TunnelDesk desk = Drive.lettingAll();
            int c = Drive.relaying(desk);
            for (int i = 0; i < start; i++) {
                desk.send(c, 200 + i);
                check.due("one in, one out", 200 + i, desk.up(c));
            }
            for (int i = 0; i < 16; i++) {
                check.due(i + " behind " + start, true, desk.send(c, i));
            }
            check.due("full behind " + start, false, desk.send(c, 99));
            check.due("behind " + start, "0 1 2 3 4 5 6 7 8 9 10 11 12 13 14 15 -1", Drive.up(desk, c));
        }
    }

    private static void downGoesRound() {
        for (int start = 0; start <= 17; start++) {
            TunnelDesk desk = Drive.lettingAll();
            int c = Drive.relaying(desk);
            for (int i = 0; i < start; i++) {
                desk.give(c, 200 + i);
                check.due("one in, one out", 200 + i, desk.down(c));
            }
            for (int i = 0; i < 16; i++) {
                check.due(i + " behind " + start, true, desk.give(c, i));
            }
            check.due("full behind " + start, false, desk.give(c, 99));
            check.due("behind " + start, "0 1 2 3 4 5 6 7 8 9 10 11 12 13 14 15 -1", Drive.down(desk, c));
        }
    }

    private static void addressBytes() {
        int[] addresses = {0, 1, 255, 256, 65535, 65536, 0xFFFFFF, 0x1000000, 0x01020304, Integer.MAX_VALUE,
            Integer.MIN_VALUE, 0xFF000000, -1};
        for (int address : addresses) {
            int[] bytes = {address >>> 24, address >>> 16 & 255, address >>> 8 & 255, address & 255};
            TunnelDesk desk = new TunnelDesk();
            desk.rule(true, 1, address, 32, 0, 65535);
            int c = Drive.greeted(desk);
            Drive.send(desk, c, 5, 1, 0, 1);
            Drive.send(desk, c, bytes);
            Drive.send(desk, c, 0, 80);
            check.due("four bytes", "4 0 0 0 0 " + address + " 0 80", Drive.about(desk, c));
            c = desk.open();
            String text = bytes[0] + "." + bytes[1] + "." + bytes[2] + "." + bytes[3];
            Drive.sendText(desk, c, "CONNECT " + text + ":80\n\n");
            check.due(text, "4 0 0 0 1 " + address + " 0 80", Drive.about(desk, c));
            check.due("lets " + text, true, desk.lets(address, 80));
            check.due("lets another one", false, desk.lets(address ^ 1, 80));
        }
    }

    private static void nameLengths() {
        for (int length : new int[] {1, 2, 14, 15}) {
            TunnelDesk desk = Drive.lettingAll();
            String name = FIFTEEN.substring(0, length);
            int c = Drive.greeted(desk);
            Drive.sendName(desk, c, 1, name, 1);
            check.due("binary, " + length, "4 0 0 0 0 0 " + length + " 1", Drive.about(desk, c));
            c = desk.open();
            Drive.sendText(desk, c, "CONNECT " + name + ":1\n\n");
            check.due("text, " + length, "4 0 0 0 1 0 " + length + " 1", Drive.about(desk, c));
        }
        for (int length : new int[] {0, 16}) {
            TunnelDesk desk = Drive.lettingAll();
            int c = Drive.greeted(desk);
            Drive.send(desk, c, 5, 1, 0, 3, length);
            check.due("binary, " + length, "6 0 0 0 0 0 0 0", Drive.about(desk, c));
        }
        TunnelDesk desk = Drive.lettingAll();
        Drive.sendText(desk, desk.open(), "CONNECT :");
        check.due("text, 0", "6 0 4 0 1 0 0 0", Drive.about(desk, 0));
        Drive.sendText(desk, desk.open(), "CONNECT " + FIFTEEN + "p");
        check.due("text, 16", "6 0 4 0 1 0 0 0", Drive.about(desk, 1));
    }

    private static void nameCharacters() {
        for (char in : "az09.-".toCharArray()) {
            TunnelDesk desk = Drive.lettingAll();
            Drive.sendName(desk, Drive.greeted(desk), 1, "" + in, 1);
            check.due("binary, " + in, "4 0 0 0 0 0 1 1", Drive.about(desk, 0));
            Drive.sendText(desk, desk.open(), "CONNECT " + in + ":1\n\n");
            check.due("text, " + in, "4 0 0 0 1 0 1 1", Drive.about(desk, 1));
            check.due("pad, " + in, true, desk.type(in));
        }
        // ':' is beside '9' too, and has a place of its own in a text.
        for (char out : "`{/:,AZ_\u0000\u00ff".toCharArray()) {
            TunnelDesk desk = Drive.lettingAll();
            Drive.sendName(desk, Drive.greeted(desk), 1, "" + out, 1);
            check.due("binary, " + (int) out, "6 0 10 0 0 0 0 0", Drive.about(desk, 0));
            Drive.sendText(desk, desk.open(), "CONNECT " + out);
            check.due("text, " + (int) out, "6 0 4 0 1 0 0 0", Drive.about(desk, 1));
            check.due("pad, " + (int) out, false, desk.type(out));
        }
    }

    private static void ports() {
        for (int port : new int[] {0, 1, 255, 256, 65534, 65535}) {
            TunnelDesk desk = new TunnelDesk();
            desk.rule(true, 0, 0, 0, port, port);
            Drive.sendName(desk, Drive.greeted(desk), 1, "a", port);
            check.due("binary, " + port, "4 0 0 0 0 0 1 " + port, Drive.about(desk, 0));
            Drive.sendText(desk, desk.open(), "CONNECT a:" + port + "\n\n");
            check.due("text, " + port, "4 0 0 0 1 0 1 " + port, Drive.about(desk, 1));
            check.due("lets, " + port, true, desk.lets(0, port));
        }
        TunnelDesk desk = Drive.lettingAll();
        Drive.sendText(desk, desk.open(), "CONNECT a:65536\n");
        check.due("text, 65536", "6 0 4 0 1 0 0 0", Drive.about(desk, 0));
        check.refused(desk, "lets, 65536", ARGUMENT, () -> desk.lets(0, 65536));
        check.refused(desk, "lets, -1", ARGUMENT, () -> desk.lets(0, -1));
    }

    private static void fourNumbers() {
        isAddress("1.2.3.4", 0x01020304);
        isAddress("255.255.255.255", -1);
        for (String text : new String[] {"1", "1.2", "1.2.3", "1.2.3.4.5", "1.2.3.4.", ".1.2.3.4", "1.2.3.", ".1.2.3",
            "1..2.3", "1.2..3", "...", "1.2.3-4", "1-2.3.4", "-1.2.3.4", "1.2.3.-4", "a.2.3.4", "1.2.3.a",
            "1.b2.3.4"}) {
            isName(text);
        }
    }

    private static void oneToThreeDigits() {
        for (int place = 0; place < 4; place++) {
            isAddress(withNumber(place, "7"), 7 << (24 - 8 * place));
            isAddress(withNumber(place, "77"), 77 << (24 - 8 * place));
            isAddress(withNumber(place, "177"), 177 << (24 - 8 * place));
            isAddress(withNumber(place, "007"), 7 << (24 - 8 * place));
            isName(withNumber(place, ""));
            isName(withNumber(place, "0007"));
            isName(withNumber(place, "1770"));
        }
    }

    private static void atMost255() {
        for (int place = 0; place < 4; place++) {
            for (int number : new int[] {0, 9, 10, 99, 100, 199, 249, 254, 255}) {
                isAddress(withNumber(place, "" + number), number << (24 - 8 * place));
            }
            for (int number : new int[] {256, 257, 260, 300, 511, 512, 999}) {
                isName(withNumber(place, "" + number));
            }
        }
    }

    /** Four numbers, of which all but this one are 0. */
    private static String withNumber(int place, String number) {
        StringBuilder text = new StringBuilder();
        for (int i = 0; i < 4; i++) {
            text.append(i == 0 ? "" : ".").append(i == place ? number : "0");
        }
        return text.toString();
    }

    private static void isAddress(String text, int address) {
        TunnelDesk desk = new TunnelDesk();
        desk.rule(true, 1, address, 32, 0, 65535);
        Drive.sendName(desk, Drive.greeted(desk), 1, text, 1);
        check.due("binary, " + text, "4 0 0 0 0 " + address + " 0 1", Drive.about(desk, 0));
        Drive.sendText(desk, desk.open(), "CONNECT " + text + ":1\n\n");
        check.due("text, " + text, "4 0 0 0 1 " + address + " 0 1", Drive.about(desk, 1));
        check.due("lets, " + text, true, Drive.letsName(desk, text, 1));
    }

    private static void isName(String text) {
        TunnelDesk desk = new TunnelDesk();
        desk.rule(false, 1, 0, 0, 0, 65535);
        Drive.named(desk, true, text, 0, 65535);
        Drive.sendName(desk, Drive.greeted(desk), 1, text, 1);
        check.due("binary, " + text, "4 0 0 0 0 0 " + text.length() + " 1", Drive.about(desk, 0));
        Drive.sendText(desk, desk.open(), "CONNECT " + text + ":1\n\n");
        check.due("text, " + text, "4 0 0 0 1 0 " + text.length() + " 1", Drive.about(desk, 1));
        check.due("lets, " + text, true, Drive.letsName(desk, text, 1));
    }

    private static void eightRules() {
        TunnelDesk desk = new TunnelDesk();
        for (int i = 1; i <= 7; i++) {
            check.due("rule " + i, i, desk.rule(false, 0, 0, 0, i, i));
        }
        check.due("rule 8", 8, Drive.named(desk, true, "a", 0, 9));
        check.refused(desk, "a 9th rule", STATE, () -> desk.rule(true, 0, 0, 0, 0, 9));
        check.due("the 8th one is still there", true, Drive.letsName(desk, "a", 9));
        check.refused(desk, "a 9th rule, named", STATE, () -> desk.named(true, 0, 9));
        check.due("how many were there", 8, desk.forget());
        check.due("the list is empty then", 1, desk.rule(true, 0, 0, 0, 0, 9));
    }

    private static void lowToHigh() {
        int[][] ports = {{10, 20}, {5, 5}, {0, 0}, {0, 1}, {65535, 65535}, {65534, 65535}, {0, 65535}};
        for (int[] p : ports) {
            TunnelDesk any = new TunnelDesk();
            any.rule(true, 0, 0, 0, p[0], p[1]);
            meantFromTo(any, p[0], p[1]);
            TunnelDesk net = new TunnelDesk();
            net.rule(true, 1, 0, 8, p[0], p[1]);
            meantFromTo(net, p[0], p[1]);
            TunnelDesk named = new TunnelDesk();
            Drive.named(named, true, "a", p[0], p[1]);
            named.type('a');
            meantFromTo(named, p[0], p[1]);
        }
    }

    private static void meantFromTo(TunnelDesk desk, int low, int high) {
        check.due("the low port", true, desk.lets(0, low));
        check.due("the high port", true, desk.lets(0, high));
        if (low > 0) {
            check.due("below the low port", false, desk.lets(0, low - 1));
        }
        if (high < 65535) {
            check.due("above the high port", false, desk.lets(0, high + 1));
        }
    }

    private static void anyGoal() {
        TunnelDesk desk = new TunnelDesk();
        desk.rule(true, 0, 0x01020304, 32, 0, 65535);
        for (int address : new int[] {0, -1, Integer.MIN_VALUE, 0x01020304}) {
            check.due("the address " + address, true, desk.lets(address, 1));
        }
        check.due("a name", true, Drive.letsName(desk, "a", 1));
    }

    private static void bits() {
        int ruled = 0xA5A5A5A5;
        for (int bits : new int[] {0, 1, 2, 8, 16, 31, 32}) {
            TunnelDesk desk = new TunnelDesk();
            desk.rule(true, 1, ruled, bits, 0, 65535);
            check.due(bits + " bits, the same", true, desk.lets(ruled, 1));
            if (bits > 0) {
                check.due(bits + " bits, the last of them differs", false, desk.lets(ruled ^ 1 << (32 - bits), 1));
                check.due(bits + " bits, the first of them differs", false, desk.lets(ruled ^ 1 << 31, 1));
            }
            if (bits < 32) {
                check.due(bits + " bits, the next one differs", true, desk.lets(ruled ^ 1 << (31 - bits), 1));
                check.due(bits + " bits, all behind differ", true, desk.lets(ruled ^ -1 >>> bits, 1));
            }
            check.due(bits + " bits, a name", false, Drive.letsName(desk, "a", 1));
        }
    }

    private static void names() {
        String[][] meant = {{"a", "a"}, {"a", ".a"}, {"a", "b.a"}, {"a", "b.c.a"}, {"a", "..a"}, {".", "."},
            {".", ".."}, {"b.c", "b.c"}, {"b.c", "a.b.c"}, {"-", "-.-"}, {FIFTEEN, FIFTEEN},
            {"cdefghijklmno", "a.cdefghijklmno"}, {"bcdefghijklmno", ".bcdefghijklmno"}};
        String[][] others = {{"a", "b"}, {"a", "aa"}, {"a", "ba"}, {"a", "b-a"}, {"a", "a."}, {"a", "a.b"},
            {"a", "b.ab"}, {"b.c", "c"}, {"b.c", ".c"}, {"b.c", "bb.cc"}, {"b.c", "ab.c"}, {"b.c", "b-c"},
            {".c", "b.c"}, {".c", "c"}, {"bc", "c"}, {"bc", "b"}, {FIFTEEN, "bcdefghijklmno"},
            {FIFTEEN, "abcdefghijklmn"}, {"bcdefghijklmno", FIFTEEN}, {"cdefghijklmno", FIFTEEN}, {"a", "1.1.1.1"},
            {"1.1.1.1", "1.1.1.1"}, {"1", "1.1.1.1"}};
        for (String[] pair : meant) {
            ruleAndName(pair[0], pair[1], true);
        }
        for (String[] pair : others) {
            ruleAndName(pair[0], pair[1], false);
        }
        TunnelDesk desk = new TunnelDesk();
        Drive.named(desk, true, "a", 0, 65535);
        check.due("an address", false, desk.lets(0, 1));
    }

    private static void ruleAndName(String ruled, String name, boolean meant) {
        TunnelDesk desk = new TunnelDesk();
        Drive.named(desk, true, ruled, 0, 65535);
        check.due("the rule's " + ruled + ", and " + name, meant, Drive.letsName(desk, name, 1));
        TunnelDesk other = new TunnelDesk();
        Drive.named(other, false, ruled, 0, 65535);
        other.rule(true, 0, 0, 0, 0, 65535);
        check.due("not the rule's " + ruled + ", and " + name, !meant, Drive.letsName(other, name, 1));
    }

    private static void firstRule() {
        for (int first = 0; first < 8; first++) {
            TunnelDesk desk = new TunnelDesk();
            for (int i = 0; i < 8; i++) {
                desk.rule(i == first, 0, 0, 0, i < first ? 1 : 2, i < first ? 1 : 2);
            }
            check.due("rule " + first + " is the first for port 2", true, desk.lets(0, 2));
            check.due("a rule before it is for port 1", false, desk.lets(0, 1));
        }
        TunnelDesk desk = new TunnelDesk();
        desk.rule(false, 0, 0, 0, 2, 2);
        desk.rule(true, 0, 0, 0, 2, 2);
        check.due("the first one does not let through", false, desk.lets(0, 2));
    }

    private static void noRule() {
        TunnelDesk desk = new TunnelDesk();
        check.due("no rule at all", false, desk.lets(0, 0));
        Drive.sendText(desk, desk.open(), "CONNECT a:1\n\n");
        check.due("nor for a client", "6 0 4 0 1 0 1 1", Drive.about(desk, 0));
        for (int i = 0; i < 8; i++) {
            desk.rule(true, 0, 0, 0, 2, 2);
        }
        check.due("eight that are for another port", false, desk.lets(0, 1));
    }

    private static void threeAccounts() {
        TunnelDesk desk = new TunnelDesk();
        check.due("account 1", 1, Drive.account(desk, "a.1"));
        check.due("account 2", 2, Drive.account(desk, "b.2"));
        check.due("account 3", 3, Drive.account(desk, "c.3"));
        Drive.type(desk, "d.4");
        check.refused(desk, "a 4th account", STATE, desk::account);
        for (char user = 'a'; user <= 'd'; user++) {
            for (char password = '1'; password <= '4'; password++) {
                int c = desk.open();
                Drive.send(desk, c, 5, 1, 2, 1, 1, user, 1, password);
                boolean known = user - 'a' == password - '1' && user != 'd';
                check.due(user + " with " + password, known ? 3 : 6, desk.free(c));
            }
        }
        desk.forget();
        check.due("account 1 again", 1, Drive.account(desk, "d.4"));
    }

    private static void endOfConnecting() {
        for (boolean stands : new boolean[] {true, false}) {
            TunnelDesk desk = Drive.lettingAll();
            int binary = Drive.greeted(desk);
            Drive.sendName(desk, binary, 1, "a", 1);
            int text = Drive.connecting(desk);
            desk.connected(binary, stands);
            check.due("binary", stands ? 5 : 6, desk.about(binary, 0));
            check.due("a reply", stands ? "5 0 0 1 0 0 0 0 0 0 -1" : "5 5 0 1 0 0 0 0 0 0 -2",
                    Drive.down(desk, binary));
            desk.connected(text, stands);
            check.due("text", stands ? 5 : 6, desk.about(text, 0));
            check.due("a status", stands ? "50 48 48 10 -1" : "53 48 50 10 -2", Drive.down(desk, text));
        }
    }

    private static void intoUp() {
        TunnelDesk desk = Drive.lettingAll();
        int c = desk.open();
        Drive.sendText(desk, c, "CONNECT a:1\n\n");
        check.due("not the last byte of the handshake", 0, desk.about(c, 1));
        Drive.send(desk, c, 1);
        check.due("the first one in CONNECTING", 1, desk.about(c, 1));
        desk.connected(c, true);
        Drive.send(desk, c, 2);
        check.due("one in RELAYING", 2, desk.about(c, 1));
        check.due("both", "1 2 -1", Drive.up(desk, c));
        Drive.down(desk, c);
        Drive.send(desk, c, 3);
        check.due("nothing of it goes down", 0, desk.about(c, 2));
    }

    private static void intoDown() {
        TunnelDesk desk = Drive.lettingAll();
        int c = Drive.connecting(desk);
        check.refused(desk, "CONNECTING", STATE, () -> desk.give(c, 7));
        desk.connected(c, true);
        check.due("RELAYING", true, desk.give(c, 7));
        check.due("behind the status", "50 48 48 10 7 -1", Drive.down(desk, c));
        check.due("nothing of it goes up", 0, desk.about(c, 1));
    }

    private static void finishedSends() {
        TunnelDesk desk = Drive.lettingAll();
        int c = Drive.relaying(desk);
        check.due("the client, before", true, desk.send(c, 1));
        desk.finish(c, true);
        check.refused(desk, "the client, behind it", STATE, () -> desk.send(c, 2));
        check.due("the target may still", true, desk.give(c, 3));
        int d = Drive.relaying(desk);
        check.due("the target, before", true, desk.give(d, 1));
        desk.finish(d, false);
        check.refused(desk, "the target, behind it", STATE, () -> desk.give(d, 2));
        check.due("the client may still", true, desk.send(d, 3));
    }

    private static void bothFinished() {
        for (int up = 0; up < 3; up++) {
            for (int down = 0; down < 3; down++) {
                for (boolean clientFirst : new boolean[] {true, false}) {
                    endsByTheLastByte(up, down, clientFirst, true);
                    endsByTheLastByte(up, down, clientFirst, false);
                }
            }
        }
        TunnelDesk desk = Drive.lettingAll();
        int c = Drive.relaying(desk);
        desk.finish(c, true);
        check.due("one side alone, with empty rings", 5, desk.about(c, 0));
        int d = Drive.relaying(desk);
        desk.finish(d, false);
        check.due("the other side alone", 5, desk.about(d, 0));
    }

    private static void endsByTheLastByte(int up, int down, boolean clientFirst, boolean upFirst) {
        TunnelDesk desk = Drive.lettingAll();
        int c = Drive.relaying(desk);
        for (int i = 0; i < up; i++) {
            desk.send(c, i);
        }
        for (int i = 0; i < down; i++) {
            desk.give(c, i);
        }
        desk.finish(c, clientFirst);
        desk.finish(c, !clientFirst);
        int left = up + down;
        check.due("both have finished", left == 0 ? 6 : 5, desk.about(c, 0));
        for (int i = 0; i < up + down; i++) {
            boolean fromUp = upFirst ? i < up : i >= down;
            check.due("a byte is left", true, (fromUp ? desk.up(c) : desk.down(c)) >= 0);
            left--;
            check.due(left + " are left", left == 0 ? 6 : 5, desk.about(c, 0));
        }
        check.due("up is over", TunnelDesk.OVER, desk.up(c));
        check.due("down is over", TunnelDesk.OVER, desk.down(c));
    }

    private static void endedInAnyWay() {
        TunnelDesk desk = Drive.lettingAll();
        int byFailure = Drive.connecting(desk);
        Drive.send(desk, byFailure, 1, 2);
        desk.connected(byFailure, false);
        endedWith(desk, byFailure, "53 48 50 10 -2");
        int byClient = desk.open();
        Drive.send(desk, byClient, 5, 1, 0);
        Drive.sendName(desk, byClient, 1, "a", 1);
        Drive.send(desk, byClient, 1, 2);
        desk.finish(byClient, true);
        endedWith(desk, byClient, "5 0 -2");
        int byTicks = Drive.relaying(desk);
        for (int i = 0; i < 16; i++) {
            desk.send(byTicks, i);
            desk.give(byTicks, i);
        }
        Drive.ticks(desk, 30);
        endedWith(desk, byTicks, "0 1 2 3 4 5 6 7 8 9 10 11 12 13 14 15 -2");
        int byReply = desk.open();
        Drive.send(desk, byReply, 5, 1, 0, 5, 1, 0, 2);
        endedWith(desk, byReply, "5 0 5 8 0 1 0 0 0 0 0 0 -2");
    }

    private static void endedWith(TunnelDesk desk, int c, String down) {
        check.due("ENDED", 6, desk.about(c, 0));
        check.due("UP is empty", 0, desk.about(c, 1));
        check.due("up", TunnelDesk.OVER, desk.up(c));
        check.due("down", down, Drive.down(desk, c));
    }
}
