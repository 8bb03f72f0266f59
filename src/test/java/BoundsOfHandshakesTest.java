import java.util.Arrays;

/** The bounds that "Terms" names for the two handshakes: a test for each sentence, on both sides of its bound. */
public final class BoundsOfHandshakesTest {
    private static final Check check = new Check();
    private static final String ZEROS = " 0 1 0 0 0 0 0 0";
    private static final String ENDED_SILENTLY = "6 0 0 0 0 0 0 0";

    public static void main(String[] args) {
        check.sentence("by the first one it is BINARY (5) or TEXT ('C'); with any other one the connection is ended.",
                BoundsOfHandshakesTest::firstByte);
        check.sentence("GREETING: 5, a count 1 .. 4", BoundsOfHandshakesTest::methodCount);
        check.sentence("so many methods", BoundsOfHandshakesTest::soManyMethods);
        check.sentence("Wanted is method 2 if there are accounts, else 0.", BoundsOfHandshakesTest::wantedMethod);
        check.sentence("If it is among them, 5 and it go down", BoundsOfHandshakesTest::amongThem);
        check.sentence("Otherwise 5, 255 go down, and it is ended.", BoundsOfHandshakesTest::notAmongThem);
        check.sentence("PASSWORD: 1, a length 1 .. 6, the user", BoundsOfHandshakesTest::userLength);
        check.sentence("a length 1 .. 6, the password", BoundsOfHandshakesTest::passwordLength);
        check.sentence("If there is such an account, 1, 0 go down, and the state is REQUEST",
                BoundsOfHandshakesTest::suchAnAccount);
        check.sentence("otherwise 1, 1 go down, and it is ended", BoundsOfHandshakesTest::noSuchAccount);
        check.sentence("the type 1 has the four bytes of an address", BoundsOfHandshakesTest::fourBytes);
        check.sentence("3 a length 1 .. 15 and a name", BoundsOfHandshakesTest::nameLength);
        check.sentence("then the two bytes of the port, the high one first", BoundsOfHandshakesTest::portBytes);
        check.sentence("A REPLY r is 5, r, 0, 1 and six bytes 0, going down; with r not 0 it is ended then.",
                BoundsOfHandshakesTest::replies);
        check.sentence("Another type: reply 8 at once.", BoundsOfHandshakesTest::anotherType);
        check.sentence("A name with a character that can't be in names: reply 1, behind the last byte of the port.",
                BoundsOfHandshakesTest::badName);
        check.sentence("reply 7 if the command is not 1", BoundsOfHandshakesTest::anotherCommand);
        check.sentence("else reply 2 if the goal is not let through", BoundsOfHandshakesTest::goalNotLet);
        check.sentence("Where another byte comes than one said here (5, 1, 0, counts and lengths in their bounds),"
                + " it is ended at once, and nothing goes down.", BoundsOfHandshakesTest::anotherByte);
        check.sentence("TEXT. The state stays GREETING.", BoundsOfHandshakesTest::staysGreeting);
        check.sentence("CONNECT, a blank, a name, :", BoundsOfHandshakesTest::lineByLine);
        check.sentence("one to five digits (the port)", BoundsOfHandshakesTest::portDigits);
        check.sentence("and two bytes 10", BoundsOfHandshakesTest::twoLineEnds);
        check.sentence("A STATUS is three digits and a byte 10, going down; with one other than 200 it is ended then.",
                BoundsOfHandshakesTest::statuses);
        check.sentence("400 at once where another byte comes than can be there (a name of 16 characters",
                BoundsOfHandshakesTest::nameOf16);
        check.sentence("a sixth digit", BoundsOfHandshakesTest::sixthDigit);
        check.sentence("a byte 10 behind digits that are more than 65535)", BoundsOfHandshakesTest::above65535);
        check.sentence("Behind the last byte: 407 if there are accounts", BoundsOfHandshakesTest::textAccounts);
        check.sentence("else 403 if the goal is not let through; else the state is CONNECTING.",
                BoundsOfHandshakesTest::textGoal);
        check.end("BoundsOfHandshakesTest");
    }

    private static TunnelDesk withAccount(String account) {
        TunnelDesk desk = Drive.lettingAll();
        Drive.account(desk, account);
        return desk;
    }

    /** What about() tells of a new client behind these bytes. */
    private static String behind(TunnelDesk desk, int... bytes) {
        int c = desk.open();
        Drive.send(desk, c, bytes);
        return Drive.about(desk, c);
    }

    private static String behind(TunnelDesk desk, String text) {
        int c = desk.open();
        Drive.sendText(desk, c, text);
        return Drive.about(desk, c);
    }

    private static void firstByte() {
        check.due("5", "1 0 0 0 0 0 0 0", behind(new TunnelDesk(), 5));
        check.due("C", "1 0 0 0 1 0 0 0", behind(new TunnelDesk(), 'C'));
        for (int b : new int[] {0, 1, 4, 6, 'B', 'D', 'c', '5', 255}) {
            check.due("the first byte " + b, ENDED_SILENTLY, behind(new TunnelDesk(), b));
        }
    }

    private static void methodCount() {
        for (int count : new int[] {1, 2, 3, 4}) {
            check.due("a count of " + count, "1 0 0 0 0 0 0 0", behind(new TunnelDesk(), 5, count));
        }
        for (int count : new int[] {0, 5, 128, 255}) {
            check.due("a count of " + count, ENDED_SILENTLY, behind(new TunnelDesk(), 5, count));
        }
    }

    private static void soManyMethods() {
        for (int count = 1; count <= 4; count++) {
            TunnelDesk desk = new TunnelDesk();
            int c = desk.open();
            Drive.send(desk, c, 5, count);
            for (int i = 1; i < count; i++) {
                Drive.send(desk, c, 0);
                check.due("method " + i + " of " + count, "1 0 0 0 0 0 0 0", Drive.about(desk, c));
            }
            Drive.send(desk, c, 0);
            check.due("the last of " + count, "3 0 2 0 0 0 0 0", Drive.about(desk, c));
        }
    }

    private static void wantedMethod() {
        check.due("no accounts, 0", "3 0 2 0 0 0 0 0", behind(new TunnelDesk(), 5, 1, 0));
        check.due("no accounts, 2", "6 0 2 0 0 0 0 0", behind(new TunnelDesk(), 5, 1, 2));
        check.due("an account, 0", "6 0 2 0 0 0 0 0", behind(withAccount("a.b"), 5, 1, 0));
        check.due("an account, 2", "2 0 2 0 0 0 0 0", behind(withAccount("a.b"), 5, 1, 2));
        TunnelDesk desk = withAccount("a.b");
        desk.forget();
        check.due("none any more, 0", "3 0 2 0 0 0 0 0", behind(desk, 5, 1, 0));
        check.due("none any more, 2", "6 0 2 0 0 0 0 0", behind(desk, 5, 1, 2));
    }

    private static void amongThem() {
        for (int place = 0; place < 4; place++) {
            for (int wanted = 0; wanted <= 2; wanted += 2) {
                int[] bytes = {5, 4, 1, 3, 4, 255};
                bytes[2 + place] = wanted;
                TunnelDesk desk = wanted == 2 ? withAccount("a.b") : new TunnelDesk();
                check.due(wanted + " at " + place, wanted == 2 ? "2 0 2 0 0 0 0 0" : "3 0 2 0 0 0 0 0",
                        behind(desk, bytes));
                check.due("down", "5 " + wanted + " -1", Drive.down(desk, 0));
            }
        }
        TunnelDesk desk = withAccount("a.b");
        behind(desk, 5, 4, 2, 0, 0, 2);
        check.due("both are among them", "5 2 -1", Drive.down(desk, 0));
    }

    private static void notAmongThem() {
        for (int method : new int[] {1, 2, 3, 254, 255}) {
            TunnelDesk desk = new TunnelDesk();
            check.due("only " + method, "6 0 2 0 0 0 0 0", behind(desk, 5, 1, method));
            check.due("down", "5 255 -2", Drive.down(desk, 0));
        }
        for (int method : new int[] {0, 1, 3, 255}) {
            TunnelDesk desk = withAccount("a.b");
            check.due("only " + method, "6 0 2 0 0 0 0 0", behind(desk, 5, 4, method, method, method, method));
            check.due("down", "5 255 -2", Drive.down(desk, 0));
        }
    }

    private static void userLength() {
        for (int length : new int[] {1, 6}) {
            check.due("a user of " + length, "2 0 2 0 0 0 0 0", behind(withAccount("a.b"), 5, 1, 2, 1, length));
            TunnelDesk desk = withAccount("abcdef".substring(0, length) + ".b");
            int c = desk.open();
            Drive.send(desk, c, 5, 1, 2, 1, length);
            Drive.sendText(desk, c, "abcdef".substring(0, length));
            Drive.send(desk, c, 1);
            check.due("not before the password", 2, desk.about(c, 0));
            Drive.send(desk, c, 'b');
            check.due("a known user of " + length, 3, desk.about(c, 0));
        }
        for (int length : new int[] {0, 7, 255}) {
            check.due("a user of " + length, "6 0 2 0 0 0 0 0", behind(withAccount("a.b"), 5, 1, 2, 1, length));
        }
    }

    private static void passwordLength() {
        for (int length : new int[] {1, 6}) {
            TunnelDesk desk = withAccount("a." + "bcdefg".substring(0, length));
            int c = desk.open();
            Drive.send(desk, c, 5, 1, 2, 1, 1, 'a', length);
            Drive.sendText(desk, c, "bcdefg".substring(0, length - 1));
            check.due("not before the last one", 2, desk.about(c, 0));
            Drive.send(desk, c, 'a' + length);
            check.due("a password of " + length, 3, desk.about(c, 0));
        }
        for (int length : new int[] {0, 7, 255}) {
            check.due("a password of " + length, "6 0 2 0 0 0 0 0",
                    behind(withAccount("a.b"), 5, 1, 2, 1, 1, 'a', length));
        }
    }

    private static void suchAnAccount() {
        TunnelDesk desk = withAccount("abcdef.uvwxyz");
        Drive.account(desk, "a.b.c");
        check.due("the longest", "3 0 4 0 0 0 0 0",
                behind(desk, 5, 1, 2, 1, 6, 'a', 'b', 'c', 'd', 'e', 'f', 6, 'u', 'v', 'w', 'x', 'y', 'z'));
        check.due("down", "5 2 1 0 -1", Drive.down(desk, 0));
        check.due("a dot in the password", "3 0 4 0 0 0 0 0", behind(desk, 5, 1, 2, 1, 1, 'a', 3, 'b', '.', 'c'));
    }

    private static void noSuchAccount() {
        int[][] logins = {{1, 'a', 1, 'c'}, {1, 'b', 1, 'b'}, {1, 'b', 1, 'a'}, {2, 'a', 'b', 1, 'b'},
            {1, 'a', 2, 'b', 'b'}, {1, 'A', 1, 'b'}, {1, 0, 1, 255}, {2, 'a', '.', 1, 'b'}};
        for (int[] login : logins) {
            TunnelDesk desk = withAccount("a.b");
            int c = desk.open();
            Drive.send(desk, c, 5, 1, 2, 1);
            Drive.send(desk, c, login);
            check.due("a login of " + Arrays.toString(login), "6 0 4 0 0 0 0 0", Drive.about(desk, c));
            check.due("down", "5 2 1 1 -2", Drive.down(desk, c));
        }
    }

    private static void fourBytes() {
        TunnelDesk desk = Drive.lettingAll();
        int c = Drive.greeted(desk);
        Drive.send(desk, c, 5, 1, 0, 1, 255, 0, 255, 0, 0);
        check.due("a byte of the port is to come", "3 0 0 0 0 0 0 0", Drive.about(desk, c));
        Drive.send(desk, c, 7);
        check.due("the last one", "4 0 0 0 0 " + 0xFF00FF00 + " 0 7", Drive.about(desk, c));
    }

    private static void nameLength() {
        for (int length : new int[] {1, 15}) {
            TunnelDesk desk = Drive.lettingAll();
            int c = Drive.greeted(desk);
            Drive.send(desk, c, 5, 1, 0, 3, length);
            Drive.sendText(desk, c, "abcdefghijklmno".substring(0, length));
            Drive.send(desk, c, 1);
            check.due("a byte of the port is to come", "3 0 0 0 0 0 0 0", Drive.about(desk, c));
            Drive.send(desk, c, 1);
            check.due("a name of " + length, "4 0 0 0 0 0 " + length + " 257", Drive.about(desk, c));
        }
        for (int length : new int[] {0, 16, 255}) {
            check.due("a name of " + length, "6 0 2 0 0 0 0 0",
                    behind(Drive.lettingAll(), 5, 1, 0, 5, 1, 0, 3, length));
        }
    }

    private static void portBytes() {
        int[][] ports = {{0, 0}, {0, 1}, {0, 255}, {1, 0}, {1, 2}, {255, 0}, {255, 255}};
        for (int[] p : ports) {
            TunnelDesk desk = Drive.lettingAll();
            check.due("the port " + p[0] + " " + p[1], "4 0 2 0 0 1 0 " + (p[0] * 256 + p[1]),
                    behind(desk, 5, 1, 0, 5, 1, 0, 1, 0, 0, 0, 1, p[0], p[1]));
        }
    }

    private static void replies() {
        TunnelDesk desk = Drive.lettingAll();
        int c = Drive.greeted(desk);
        Drive.sendName(desk, c, 1, "a", 1);
        desk.connected(c, true);
        check.due("reply 0 does not end it", "5 0 10 0 0 0 1 1", Drive.about(desk, c));
        check.due("reply 0", "5 0" + ZEROS + " -1", Drive.down(desk, c));
        int d = Drive.greeted(desk);
        Drive.sendName(desk, d, 1, "a", 1);
        desk.connected(d, false);
        check.due("reply 5 ends it", "6 0 10 0 0 0 1 1", Drive.about(desk, d));
        check.due("reply 5", "5 5" + ZEROS + " -2", Drive.down(desk, d));
    }

    private static void anotherType() {
        for (int type : new int[] {0, 2, 4, 255}) {
            for (int command : new int[] {0, 1, 2}) {
                TunnelDesk desk = new TunnelDesk();
                check.due("type " + type, "6 0 12 0 0 0 0 0", behind(desk, 5, 1, 0, 5, command, 0, type));
                check.due("reply 8", "5 0 5 8" + ZEROS + " -2", Drive.down(desk, 0));
            }
        }
        for (int type : new int[] {1, 3}) {
            check.due("type " + type, "3 0 2 0 0 0 0 0", behind(new TunnelDesk(), 5, 1, 0, 5, 1, 0, type));
        }
    }

    private static void badName() {
        for (int place = 0; place < 15; place++) {
            for (int command : new int[] {1, 2}) {
                char[] name = "abcdefghijklmno".toCharArray();
                name[place] = 'A';
                TunnelDesk desk = new TunnelDesk();
                int c = Drive.greeted(desk);
                Drive.send(desk, c, 5, command, 0, 3, 15);
                Drive.sendText(desk, c, new String(name));
                Drive.send(desk, c, 0);
                check.due("not before the last byte", "3 0 0 0 0 0 0 0", Drive.about(desk, c));
                Drive.send(desk, c, 0);
                check.due("it is ended, without a goal", "6 0 10 0 0 0 0 0", Drive.about(desk, c));
                check.due("reply 1 before 7 and 2", "5 1" + ZEROS + " -2", Drive.down(desk, c));
            }
        }
    }

    private static void anotherCommand() {
        for (int command : new int[] {0, 2, 3, 255}) {
            TunnelDesk desk = new TunnelDesk();
            int c = Drive.greeted(desk);
            Drive.send(desk, c, 5, command, 0, 1, 1, 2, 3, 4, 0);
            check.due("not before the last byte", "3 0 0 0 0 0 0 0", Drive.about(desk, c));
            Drive.send(desk, c, 80);
            check.due("command " + command + " has no goal", "6 0 10 0 0 0 0 0", Drive.about(desk, c));
            check.due("reply 7 before 2", "5 7" + ZEROS + " -2", Drive.down(desk, c));
        }
    }

    private static void goalNotLet() {
        TunnelDesk desk = new TunnelDesk();
        desk.rule(true, 1, 0x01020304, 32, 80, 80);
        int[][] requests = {{4, 80}, {5, 80}, {4, 81}, {4, 79}};
        for (int[] r : requests) {
            int c = Drive.greeted(desk);
            Drive.send(desk, c, 5, 1, 0, 1, 1, 2, 3, r[0], 0, r[1]);
            boolean let = r[0] == 4 && r[1] == 80;
            String goal = (0x01020300 + r[0]) + " 0 " + r[1];
            check.due("the goal is looked at", (let ? "4 0 0 0 0 " : "6 0 10 0 0 ") + goal, Drive.about(desk, c));
            check.due("down", let ? "-1" : "5 2" + ZEROS + " -2", Drive.down(desk, c));
        }
    }

    private static void anotherByte() {
        int[][] ends = {{5, 0}, {5, 5}, {5, 1, 2, 0}, {5, 1, 2, 2}, {5, 1, 2, 5}, {5, 1, 2, 1, 0}, {5, 1, 2, 1, 7},
            {5, 1, 2, 1, 1, 'a', 0}, {5, 1, 2, 1, 1, 'a', 7}};
        for (int[] bytes : ends) {
            TunnelDesk desk = withAccount("a.b");
            endsSilently(desk, bytes);
        }
        int[][] requests = {{5, 1, 0, 4}, {5, 1, 0, 6}, {5, 1, 0, 1}, {5, 1, 0, 5, 1, 1}, {5, 1, 0, 5, 1, 255},
            {5, 1, 0, 5, 1, 0, 3, 0}, {5, 1, 0, 5, 1, 0, 3, 16}};
        for (int[] bytes : requests) {
            endsSilently(Drive.lettingAll(), bytes);
        }
    }

    private static void endsSilently(TunnelDesk desk, int[] bytes) {
        int c = desk.open();
        Drive.send(desk, c, Arrays.copyOf(bytes, bytes.length - 1));
        check.due("not before the last of " + Arrays.toString(bytes), true, desk.about(c, 0) < 4);
        Drive.down(desk, c);
        check.due("the last one is taken", true, desk.send(c, bytes[bytes.length - 1]));
        check.due("behind " + Arrays.toString(bytes), ENDED_SILENTLY, Drive.about(desk, c));
        check.due("nothing goes down", TunnelDesk.OVER, desk.down(c));
    }

    private static void staysGreeting() {
        TunnelDesk desk = Drive.lettingAll();
        int c = desk.open();
        String line = "CONNECT a:1\n\n";
        for (int i = 0; i < line.length(); i++) {
            check.due("behind " + i + " bytes", 1, desk.about(c, 0));
            Drive.send(desk, c, line.charAt(i));
        }
        check.due("behind the last one", 4, desk.about(c, 0));
    }

    private static void lineByLine() {
        String[] wrong = {"Co", "C ", "CC", "CONNECT\n", "CONNECT:", "CONNECTa", "CONNECTT", "CONNECT  ", "CONNECT :",
            "CONNECT \n", "CONNECT a ", "CONNECT a\n", "CONNECT A", "CONNECT a::", "CONNECT a:a", "CONNECT a:-",
            "CONNECT a:.", "CONNECT a: "};
        for (String text : wrong) {
            badAtTheLastByte(text);
        }
        check.due("all as said", "4 0 0 0 1 0 3 1", behind(Drive.lettingAll(), "CONNECT a-b:1\n\n"));
    }

    /** The bytes before the last one may come, and behind that one there is status 400. */
    private static void badAtTheLastByte(String text) {
        TunnelDesk desk = Drive.lettingAll();
        check.due("before the last of " + text, "1 0 0 0 1 0 0 0", behind(desk, text.substring(0, text.length() - 1)));
        check.due("the last one is taken", true, desk.send(0, text.charAt(text.length() - 1)));
        check.due("behind " + text, "6 0 4 0 1 0 0 0", Drive.about(desk, 0));
        check.due("status 400", "52 48 48 10 -2", Drive.down(desk, 0));
    }

    private static void portDigits() {
        String[] ports = {"0", "7", "42", "123", "4567", "12345", "00000", "00009", "65535"};
        for (String port : ports) {
            check.due("the port " + port, "4 0 0 0 1 0 1 " + Integer.parseInt(port),
                    behind(Drive.lettingAll(), "CONNECT a:" + port + "\n\n"));
        }
        badAtTheLastByte("CONNECT a:\n");
        badAtTheLastByte("CONNECT a:123456");
        badAtTheLastByte("CONNECT a:/");
        badAtTheLastByte("CONNECT a::");
    }

    private static void twoLineEnds() {
        check.due("one", "1 0 0 0 1 0 0 0", behind(Drive.lettingAll(), "CONNECT a:1\n"));
        check.due("two", "4 0 0 0 1 0 1 1", behind(Drive.lettingAll(), "CONNECT a:1\n\n"));
        check.due("a third one goes up", "4 1 0 0 1 0 1 1", behind(Drive.lettingAll(), "CONNECT a:1\n\n\n"));
        badAtTheLastByte("CONNECT a:1\n1");
        badAtTheLastByte("CONNECT a:1\n\r");
        badAtTheLastByte("CONNECT a:1\r");
        badAtTheLastByte("CONNECT a:1\u000b");
        badAtTheLastByte("CONNECT a:1\t");
    }

    private static void statuses() {
        TunnelDesk desk = Drive.lettingAll();
        int c = Drive.connecting(desk);
        desk.connected(c, true);
        check.due("200 does not end it", "5 0 4 0 1 0 1 1", Drive.about(desk, c));
        check.due("status 200", "50 48 48 10 -1", Drive.down(desk, c));
        int d = Drive.connecting(desk);
        desk.connected(d, false);
        check.due("502 ends it", "6 0 4 0 1 0 1 1", Drive.about(desk, d));
        check.due("status 502", "53 48 50 10 -2", Drive.down(desk, d));
    }

    private static void nameOf16() {
        check.due("15", "4 0 0 0 1 0 15 1", behind(Drive.lettingAll(), "CONNECT abcdefghijklmno:1\n\n"));
        badAtTheLastByte("CONNECT abcdefghijklmnop");
        badAtTheLastByte("CONNECT 1234567890123456");
        badAtTheLastByte("CONNECT 255.255.255.2550");
    }

    private static void sixthDigit() {
        check.due("five", "1 0 0 0 1 0 0 0", behind(Drive.lettingAll(), "CONNECT a:99999"));
        badAtTheLastByte("CONNECT a:000000");
        badAtTheLastByte("CONNECT a:000001");
        badAtTheLastByte("CONNECT a:655350");
        badAtTheLastByte("CONNECT a:999999");
    }

    private static void above65535() {
        check.due("65534", "4 0 0 0 1 0 1 65534", behind(Drive.lettingAll(), "CONNECT a:65534\n\n"));
        check.due("65535", "4 0 0 0 1 0 1 65535", behind(Drive.lettingAll(), "CONNECT a:65535\n\n"));
        badAtTheLastByte("CONNECT a:65536\n");
        badAtTheLastByte("CONNECT a:65537\n");
        badAtTheLastByte("CONNECT a:70000\n");
        badAtTheLastByte("CONNECT a:99999\n");
    }

    private static void textAccounts() {
        TunnelDesk desk = new TunnelDesk();
        Drive.account(desk, "a.b");
        check.due("not before the last byte", "1 0 0 0 1 0 0 0", behind(desk, "CONNECT a:1\n"));
        Drive.send(desk, 0, 10);
        check.due("407 before 403, without a goal", "6 0 4 0 1 0 0 0", Drive.about(desk, 0));
        check.due("status 407", "52 48 55 10 -2", Drive.down(desk, 0));
        check.due("400 comes before it", "6 0 4 0 1 0 0 0", behind(desk, "CONNECT a:1\n1"));
        check.due("status 400", "52 48 48 10 -2", Drive.down(desk, 1));
        desk.forget();
        desk.rule(true, 0, 0, 0, 1, 1);
        check.due("no accounts any more", "4 0 0 0 1 0 1 1", behind(desk, "CONNECT a:1\n\n"));
    }

    private static void textGoal() {
        TunnelDesk desk = new TunnelDesk();
        Drive.named(desk, true, "b", 2, 3);
        String[] goals = {"b:2", "a.b:3", "ab:2", "b:1", "b:4"};
        for (int i = 0; i < goals.length; i++) {
            int c = desk.open();
            Drive.sendText(desk, c, "CONNECT " + goals[i] + "\n\n");
            int colon = goals[i].indexOf(':');
            check.due(goals[i], (i < 2 ? "4 0 0 0 1 0 " : "6 0 4 0 1 0 ") + colon + " " + goals[i].substring(colon + 1),
                    Drive.about(desk, c));
            check.due("down", i < 2 ? "-1" : "52 48 51 10 -2", Drive.down(desk, c));
            desk.free(c);
        }
    }
}
