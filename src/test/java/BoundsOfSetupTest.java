import java.util.NoSuchElementException;

/** Promises 1 to 8: a test for each sentence that names a bound, on both sides of it. */
public final class BoundsOfSetupTest {
    private static final Check check = new Check();
    private static final Class<IllegalArgumentException> ARGUMENT = IllegalArgumentException.class;
    private static final Class<IllegalStateException> STATE = IllegalStateException.class;
    private static final int LEAST = Integer.MIN_VALUE, MOST = Integer.MAX_VALUE;
    private static final String ALL_ZERO = "0 0 0 0 0 0 0 0";

    public static void main(String[] args) {
        pad();
        rules();
        accounts();
        openAndFree();
        check.end("BoundsOfSetupTest");
    }

    private static void pad() {
        check.sentence("1: All is free; no rules, no accounts, an empty pad.", BoundsOfSetupTest::newObject);
        check.sentence("2: refused with false when it is no small letter, digit, . or -",
                BoundsOfSetupTest::typeOther);
        check.sentence("2: or 15 are there", BoundsOfSetupTest::type15);
    }

    private static void newObject() {
        TunnelDesk desk = new TunnelDesk();
        for (int c = 0; c < 4; c++) {
            check.due("connection " + c, ALL_ZERO, Drive.about(desk, c));
        }
        check.due("counts", "0 0 0 0",
                desk.count(0) + " " + desk.count(1) + " " + desk.count(2) + " " + desk.count(3));
        check.due("nothing is let through", false, desk.lets(0, 0));
        check.due("nothing is full", 0f, desk.full());
        check.refused(desk, "the pad is empty", ARGUMENT, () -> desk.named(true, 0, 0));
    }

    private static void typeOther() {
        for (char in : "amz059.-".toCharArray()) {
            TunnelDesk desk = new TunnelDesk();
            check.due("type " + in, true, desk.type(in));
            check.due("it is there", 1, desk.count(3));
        }
        // The last three are a, 0 and . in their low eight bits only.
        for (char out : "`{/:,+AZ _~\n\u0000\u007f\u00b2\u00e9\uffff\u0161\u0130\u012e".toCharArray()) {
            TunnelDesk desk = new TunnelDesk();
            check.due("type " + (int) out, false, desk.type(out));
            check.due("it is not there", 0, desk.count(3));
        }
    }

    private static void type15() {
        TunnelDesk desk = new TunnelDesk();
        for (int i = 1; i <= 15; i++) {
            check.due("character " + i, true, desk.type((char) ('a' + i)));
            check.due("how many there are", i, desk.count(3));
        }
        check.due("character 16", false, desk.type('x'));
        check.due("none that can't be typed either", false, desk.type('X'));
        check.due("15 stay", 15, desk.count(3));
        check.due("a rule of them", 1, desk.named(true, 0, 9));
        check.due("it is the text of 15", true, Drive.letsName(desk, "bcdefghijklmnop", 1));
    }

    private static void rules() {
        check.sentence("3: Puts a rule of kind 0 or 1 behind the others: how many there are.",
                BoundsOfSetupTest::ruleCounts);
        check.sentence("3: IllegalArgumentException: kind is neither", BoundsOfSetupTest::ruleKinds);
        check.sentence("3: bits is not 0 .. 32 (with kind 1)", BoundsOfSetupTest::ruleBits);
        check.sentence("3: or not 0 <= low <= high <= 65535", BoundsOfSetupTest::rulePorts);
        check.sentence("3: IllegalStateException: there are 8.", BoundsOfSetupTest::ruleNine);
        check.sentence("4: the pad is empty then", BoundsOfSetupTest::namedEmptiesPad);
        check.sentence("4: IllegalArgumentException: the pad is empty", BoundsOfSetupTest::namedEmptyPad);
        check.sentence("4: or not 0 <= low <= high <= 65535", BoundsOfSetupTest::namedPorts);
        check.sentence("4: IllegalStateException: there are 8.", BoundsOfSetupTest::namedNine);
    }

    private static void ruleCounts() {
        TunnelDesk desk = new TunnelDesk();
        for (int i = 1; i <= 8; i++) {
            check.due("rule " + i, i, desk.rule(i % 2 == 0, i % 2, i, 32, 0, 9));
            check.due("count", i, desk.count(0));
        }
        check.due("rule 1 is before rule 2", false, desk.lets(1, 9));
        check.due("rule 2 is for others", true, desk.lets(2, 9));
    }

    private static void ruleKinds() {
        TunnelDesk desk = new TunnelDesk();
        check.due("kind 0", 1, desk.rule(true, 0, 0, 0, 0, 0));
        check.due("kind 1", 2, desk.rule(true, 1, 0, 0, 0, 0));
        for (int kind : new int[] {-1, 2, LEAST, MOST}) {
            check.refused(desk, "kind " + kind, ARGUMENT, () -> desk.rule(true, kind, 0, 0, 0, 0));
        }
    }

    private static void ruleBits() {
        TunnelDesk desk = new TunnelDesk();
        check.due("0 bits", 1, desk.rule(true, 1, 7, 0, 1, 1));
        check.due("32 bits", 2, desk.rule(true, 1, 7, 32, 2, 2));
        for (int bits : new int[] {-1, 33, LEAST, MOST}) {
            check.refused(desk, bits + " bits", ARGUMENT, () -> desk.rule(true, 1, 7, bits, 0, 0));
            TunnelDesk other = new TunnelDesk();
            check.due(bits + " bits with kind 0", 1, other.rule(true, 0, 7, bits, 0, 0));
            check.due("it is for any", true, other.lets(LEAST, 0));
        }
        check.due("0 bits are for any address", true, desk.lets(LEAST, 1));
        check.due("32 bits are for this one", true, desk.lets(7, 2));
        check.due("and no other", false, desk.lets(6, 2));
    }

    private static final int[][] GOOD_PORTS = {{0, 0}, {0, 1}, {0, 65535}, {65534, 65535}, {65535, 65535}, {80, 80}};
    private static final int[][] BAD_PORTS = {{-1, 0}, {-1, -1}, {1, 0}, {65535, 65534}, {0, 65536}, {65536, 65536},
        {65535, 65536}, {65536, 65535}, {0, -1}, {LEAST, 0}, {0, MOST}, {MOST, LEAST}, {LEAST, MOST}};

    private static void rulePorts() {
        for (int[] p : GOOD_PORTS) {
            check.due("ports " + p[0] + " " + p[1], 1, new TunnelDesk().rule(true, 0, 0, 0, p[0], p[1]));
            check.due("kind 1", 1, new TunnelDesk().rule(true, 1, 0, 0, p[0], p[1]));
        }
        for (int[] p : BAD_PORTS) {
            TunnelDesk desk = new TunnelDesk();
            check.refused(desk, "ports " + p[0] + " " + p[1], ARGUMENT, () -> desk.rule(true, 0, 0, 0, p[0], p[1]));
            check.refused(desk, "kind 1", ARGUMENT, () -> desk.rule(true, 1, 0, 0, p[0], p[1]));
        }
    }

    private static void ruleNine() {
        TunnelDesk desk = new TunnelDesk();
        for (int i = 1; i <= 8; i++) {
            check.due("rule " + i, i, desk.rule(false, 0, 0, 0, i, i));
        }
        check.refused(desk, "a 9th of kind 0", STATE, () -> desk.rule(true, 0, 0, 0, 0, 9));
        check.refused(desk, "a 9th of kind 1", STATE, () -> desk.rule(true, 1, 0, 0, 0, 9));
        check.due("it is not there", false, desk.lets(0, 9));
    }

    private static void namedEmptiesPad() {
        TunnelDesk desk = new TunnelDesk();
        Drive.type(desk, "abcdefghijklmno");
        check.due("a full pad", 1, desk.named(true, 0, 9));
        check.due("it is empty", 0, desk.count(3));
        Drive.type(desk, "b");
        check.due("the next rule", 2, desk.named(true, 0, 9));
        check.due("the first rule", true, Drive.letsName(desk, "abcdefghijklmno", 1));
        TunnelDesk other = new TunnelDesk();
        Drive.named(other, true, "abc", 0, 9);
        Drive.named(other, true, "d", 0, 9);
        check.due("nothing of the first one is in the second one", false, Drive.letsName(other, "dbc", 1));
    }

    private static void namedEmptyPad() {
        TunnelDesk desk = new TunnelDesk();
        check.refused(desk, "an empty pad", ARGUMENT, () -> desk.named(true, 0, 0));
        desk.type('a');
        check.due("a pad of one", 1, desk.named(true, 0, 0));
        check.refused(desk, "an empty pad again", ARGUMENT, () -> desk.named(true, 0, 0));
        desk.type('a');
        desk.forget();
        check.refused(desk, "a forgotten pad", ARGUMENT, () -> desk.named(true, 0, 0));
    }

    private static void namedPorts() {
        for (int[] p : GOOD_PORTS) {
            check.due("ports " + p[0] + " " + p[1], 1, Drive.named(new TunnelDesk(), true, "a", p[0], p[1]));
        }
        for (int[] p : BAD_PORTS) {
            TunnelDesk desk = new TunnelDesk();
            desk.type('a');
            check.refused(desk, "ports " + p[0] + " " + p[1], ARGUMENT, () -> desk.named(true, p[0], p[1]));
            check.due("the pad stays", 1, desk.count(3));
        }
    }

    private static void namedNine() {
        TunnelDesk desk = new TunnelDesk();
        for (int i = 1; i <= 8; i++) {
            check.due("rule " + i, i, Drive.named(desk, true, "" + i, 0, 9));
        }
        desk.type('9');
        check.refused(desk, "a 9th", STATE, () -> desk.named(true, 0, 9));
        check.due("the pad stays", 1, desk.count(3));
        check.due("the 9th is not there", false, desk.lets(0, 9));
        desk.forget();
        check.due("behind forget", 1, Drive.named(desk, true, "9", 0, 9));
    }

    private static void accounts() {
        check.sentence("5: the pad's text up to the first . is the user, what is behind it the password",
                BoundsOfSetupTest::firstDot);
        check.sentence("5: the pad is empty then: how many there are", BoundsOfSetupTest::accountCounts);
        check.sentence("5: IllegalArgumentException: there is no .", BoundsOfSetupTest::noDot);
        check.sentence("5: or one of both has not 1 to 6 characters", BoundsOfSetupTest::oneToSix);
        check.sentence("5: IllegalStateException: there are three.", BoundsOfSetupTest::fourthAccount);
        check.sentence("6: Takes all rules and accounts away, and empties the pad: how many rules there were.",
                BoundsOfSetupTest::forgetAll);
        check.sentence("6: Handshakes that are on go on with what there is then.", BoundsOfSetupTest::forgetOn);
    }

    private static boolean knows(TunnelDesk desk, String user, String password) {
        int c = desk.open();
        Drive.send(desk, c, 5, 1, 2, 1, user.length());
        Drive.sendText(desk, c, user);
        Drive.send(desk, c, password.length());
        Drive.sendText(desk, c, password);
        return desk.free(c) == 3;
    }

    private static void firstDot() {
        TunnelDesk desk = new TunnelDesk();
        Drive.account(desk, "a.b.c");
        check.due("the first dot", true, knows(desk, "a", "b.c"));
        check.due("the second dot", false, knows(desk, "a.b", "c"));
        desk.forget();
        Drive.account(desk, "a..");
        check.due("a password that is a dot", true, knows(desk, "a", "."));
        desk.forget();
        Drive.account(desk, "-.......");
        check.due("a password of six dots", true, knows(desk, "-", "......"));
        check.due("of five", false, knows(desk, "-", "....."));
        Drive.type(desk, ".a.b");
        check.refused(desk, "no user before the first dot", ARGUMENT, desk::account);
    }

    private static void accountCounts() {
        TunnelDesk desk = new TunnelDesk();
        for (int i = 1; i <= 3; i++) {
            check.due("account " + i, i, Drive.account(desk, "abcdef.123456"));
            check.due("the pad is empty", 0, desk.count(3));
            check.due("count", i, desk.count(1));
        }
    }

    private static void noDot() {
        for (String text : new String[] {"", "a", "a-b", "abcdefghijklmno"}) {
            TunnelDesk desk = new TunnelDesk();
            Drive.type(desk, text);
            check.refused(desk, "account of " + text, ARGUMENT, desk::account);
            check.due("the pad stays", text.length(), desk.count(3));
        }
    }

    private static void oneToSix() {
        String letters = "abcdefghijklmn";
        for (int user = 0; user <= 8; user++) {
            for (int password = 0; password <= 14 - user; password++) {
                TunnelDesk desk = new TunnelDesk();
                String first = letters.substring(0, user);
                String second = letters.substring(0, password);
                Drive.type(desk, first + "." + second);
                if (user >= 1 && user <= 6 && password >= 1 && password <= 6) {
                    check.due(user + " and " + password, 1, desk.account());
                    check.due("it is known", true, knows(desk, first, second));
                } else {
                    check.refused(desk, user + " and " + password, ARGUMENT, desk::account);
                    check.due("the pad stays", user + 1 + password, desk.count(3));
                }
            }
        }
    }

    private static void fourthAccount() {
        TunnelDesk desk = new TunnelDesk();
        for (int i = 1; i <= 3; i++) {
            check.due("account " + i, i, Drive.account(desk, i + ".x"));
        }
        Drive.type(desk, "4.x");
        check.refused(desk, "a fourth one", STATE, desk::account);
        check.due("the pad stays", 3, desk.count(3));
        check.due("the third one is known", true, knows(desk, "3", "x"));
        check.due("the fourth one is not", false, knows(desk, "4", "x"));
        desk.forget();
        check.due("behind forget", 1, Drive.account(desk, "4.x"));
    }

    private static void forgetAll() {
        for (int rules = 0; rules <= 8; rules++) {
            TunnelDesk desk = new TunnelDesk();
            for (int i = 0; i < rules; i++) {
                desk.rule(true, 0, 0, 0, 0, 9);
            }
            for (int i = 0; i < rules && i < 3; i++) {
                Drive.account(desk, "a.b");
            }
            Drive.type(desk, "abcdefghijklmno");
            check.due("forget", rules, desk.forget());
            check.due("all are gone", "0 0 0", desk.count(0) + " " + desk.count(1) + " " + desk.count(3));
            check.due("nothing is let through", false, desk.lets(0, 9));
            check.due("forget again", 0, desk.forget());
        }
        TunnelDesk desk = Drive.inState(5);
        desk.forget();
        check.due("connections stay", "5 0 0 0 1 0 1 1", Drive.about(desk, 0));
    }

    private static void forgetOn() {
        TunnelDesk greeting = Drive.lettingAll();
        Drive.account(greeting, "ab.c1");
        greeting.open();
        Drive.send(greeting, 0, 5, 2, 0);
        greeting.forget();
        Drive.send(greeting, 0, 1);
        check.due("a greeting goes on without accounts", "5 0 -1", Drive.down(greeting, 0));
        TunnelDesk password = Drive.inState(2);
        password.forget();
        Drive.send(password, 0, Drive.LOGIN_AB_C1);
        check.due("a password goes on without its account", "1 1 -2", Drive.down(password, 0));
        TunnelDesk again = Drive.inState(2);
        again.forget();
        Drive.account(again, "ab.c1");
        Drive.send(again, 0, Drive.LOGIN_AB_C1);
        check.due("or with one made anew", "1 0 -1", Drive.down(again, 0));
        TunnelDesk request = Drive.inState(3);
        request.forget();
        Drive.sendName(request, 0, 1, "a", 1);
        check.due("a request goes on without rules", "6 0 10 0 0 0 1 1", Drive.about(request, 0));
        TunnelDesk text = Drive.inState(1);
        Drive.sendText(text, 0, "CONNECT a:1\n");
        text.forget();
        Drive.send(text, 0, 10);
        check.due("a text goes on without rules", "52 48 51 10 -2", Drive.down(text, 0));
        TunnelDesk connecting = Drive.inState(4);
        connecting.forget();
        connecting.connected(0, true);
        check.due("what was let through stays so", 5, connecting.about(0, 0));
    }

    private static void openAndFree() {
        check.sentence("7: The lowest free connection is opened, in the state GREETING: its number",
                BoundsOfSetupTest::openLowest);
        check.sentence("7: NONE if none is free", BoundsOfSetupTest::openNone);
        check.sentence("8: The connection is free then, with nothing left in it: the state that it had.",
                BoundsOfSetupTest::freeEach);
        check.sentence("8: NoSuchElementException.", BoundsOfSetupTest::freeNone);
    }

    private static void openLowest() {
        for (int free = 1; free < 16; free++) {
            TunnelDesk desk = new TunnelDesk();
            for (int c = 0; c < 4; c++) {
                desk.open();
            }
            for (int c = 3; c >= 0; c--) {
                if ((free >> c & 1) == 1) {
                    desk.free(c);
                }
            }
            int lowest = Integer.numberOfTrailingZeros(free);
            check.due("the lowest of " + free, lowest, desk.open());
            check.due("GREETING", "1 0 0 0 0 0 0 0", Drive.about(desk, lowest));
        }
    }

    private static void openNone() {
        TunnelDesk desk = new TunnelDesk();
        for (int c = 0; c < 4; c++) {
            check.due("one is free", c, desk.open());
        }
        check.due("none is free", TunnelDesk.NONE, desk.open());
        check.due("four are not", 4, desk.count(2));
        Drive.ticks(desk, 8);
        check.due("ended ones are not free", TunnelDesk.NONE, desk.open());
        desk.free(3);
        check.due("the last one is", 3, desk.open());
        check.due("none again", TunnelDesk.NONE, desk.open());
    }

    private static void freeEach() {
        for (int state = 1; state <= 6; state++) {
            TunnelDesk desk = Drive.inState(state);
            desk.tick();
            check.due("free", state, desk.free(0));
            check.due("nothing is left", ALL_ZERO, Drive.about(desk, 0));
            check.due("opened again", 0, desk.open());
            check.due("as new", "1 0 0 0 0 0 0 0", Drive.about(desk, 0));
        }
        handshakesLeaveNothing();
        TunnelDesk desk = Drive.inState(5);
        for (int i = 0; i < 16; i++) {
            desk.send(0, i);
            desk.give(0, i);
        }
        desk.finish(0, true);
        desk.finish(0, false);
        desk.free(0);
        check.due("full rings, finished sides", ALL_ZERO, Drive.about(desk, 0));
        Drive.relaying(desk);
        check.due("UP is empty and not over", TunnelDesk.NONE, desk.up(0));
        check.due("DOWN is empty and not over", TunnelDesk.NONE, desk.down(0));
        check.due("the client may send", true, desk.send(0, 1));
        check.due("the target may give", true, desk.give(0, 1));
    }

    /** Of a handshake that was left behind any of its bytes, nothing is in the next one of that connection. */
    private static void handshakesLeaveNothing() {
        String[] left = {"\5\4\0\2\1\3", "\5\1\0\5\1\0\3\3abc\1\1", "\5\1\0\5\1\0\1\1\1\1\1\1\1",
            "CONNECT abc:123\n\n"};
        for (String bytes : left) {
            for (int sent = 0; sent <= bytes.length(); sent++) {
                TunnelDesk desk = Drive.lettingAll();
                leave(desk, bytes.substring(0, sent));
                Drive.sendText(desk, 0, "\5\1\1");
                check.due("methods, behind " + sent, 6, desk.about(0, 0));
                leave(desk, bytes.substring(0, sent));
                Drive.sendText(desk, 0, "\5\1\0\5\1\0\1\0\0\0\2\0\7");
                check.due("a request, behind " + sent, "4 0 2 0 0 2 0 7", Drive.about(desk, 0));
                leave(desk, bytes.substring(0, sent));
                Drive.sendText(desk, 0, "CONNECT x:12345\n\n");
                check.due("a text, behind " + sent, "4 0 0 0 1 0 1 12345", Drive.about(desk, 0));
                leave(desk, bytes.substring(0, sent));
                Drive.sendText(desk, 0, "CONNECT x:\n");
                check.due("no digits, behind " + sent, 6, desk.about(0, 0));
            }
        }
    }

    /** Connection 0 is new behind it, and was used for these bytes before. */
    private static void leave(TunnelDesk desk, String bytes) {
        if (desk.about(0, 0) != 0) {
            desk.free(0);
        }
        Drive.sendText(desk, desk.open(), bytes);
        desk.free(0);
        desk.open();
    }

    private static void freeNone() {
        TunnelDesk desk = Drive.inState(1);
        for (int c : new int[] {-1, 1, 4}) {
            check.refused(desk, "free " + c, NoSuchElementException.class, () -> desk.free(c));
        }
        check.due("free 0", 1, desk.free(0));
        check.refused(desk, "free 0 again", NoSuchElementException.class, () -> desk.free(0));
    }
}
