/** The binary handshake: promises 9 (send), 6 (forget, with handshakes that are on) and 16 (about, the goal). */
public final class BinaryTest {
    private static final Check check = new Check();
    private static final String REPLY_ZEROS = " 0 1 0 0 0 0 0 0";

    public static void main(String[] args) {
        firstByte();
        greeting();
        greetingOutOfBounds();
        accountsAtTheLastMethod();
        password();
        passwordOutOfBounds();
        requestForAddress();
        requestForName();
        requestReplies();
        requestOutOfBounds();
        forgetOnTheWay();
        mostBytesDown();
        check.end("BinaryTest");
    }

    private static void firstByte() {
        for (int b = 0; b < 256; b++) {
            TunnelDesk desk = new TunnelDesk();
            int c = desk.open();
            check.due("the first byte " + b, true, desk.send(c, b));
            check.due("state behind it", b == 5 || b == 'C' ? 1 : 6, desk.about(c, 0));
            check.due("text behind it", b == 'C' ? 1 : 0, desk.about(c, 4));
            check.due("nothing goes down", 0, desk.about(c, 2));
        }
    }

    private static void greeting() {
        int[][] open = {{5, 1, 0}, {5, 4, 1, 2, 3, 0}, {5, 2, 0, 0}, {5, 3, 0, 255, 2}};
        int[][] login = {{5, 1, 2}, {5, 4, 0, 1, 2, 3}, {5, 2, 2, 2}};
        int[][] neither = {{5, 1, 1}, {5, 4, 1, 3, 4, 255}};
        for (int[] bytes : open) {
            TunnelDesk desk = new TunnelDesk();
            greetWith(desk, bytes, "3 0 2 0 0 0 0 0", "5 0 -1");
        }
        for (int[] bytes : login) {
            TunnelDesk desk = new TunnelDesk();
            Drive.account(desk, "ab.c1");
            greetWith(desk, bytes, "2 0 2 0 0 0 0 0", "5 2 -1");
        }
        for (int[] bytes : neither) {
            greetWith(new TunnelDesk(), bytes, "6 0 2 0 0 0 0 0", "5 255 -2");
        }
        greetWith(new TunnelDesk(), new int[] {5, 1, 2}, "6 0 2 0 0 0 0 0", "5 255 -2");
        TunnelDesk desk = new TunnelDesk();
        Drive.account(desk, "ab.c1");
        greetWith(desk, new int[] {5, 1, 0}, "6 0 2 0 0 0 0 0", "5 255 -2");
    }

    private static void greetWith(TunnelDesk desk, int[] bytes, String about, String down) {
        int c = desk.open();
        for (int i = 0; i < bytes.length; i++) {
            check.due("GREETING until the last method", "1 0 0 0 0 0 0 0", Drive.about(desk, c));
            check.due("taken", true, desk.send(c, bytes[i]));
        }
        check.due("about, behind the greeting", about, Drive.about(desk, c));
        check.due("down, behind the greeting", down, Drive.down(desk, c));
    }

    private static void greetingOutOfBounds() {
        for (int count = 0; count < 256; count++) {
            TunnelDesk desk = new TunnelDesk();
            int c = desk.open();
            Drive.send(desk, c, 5, count);
            boolean may = count >= 1 && count <= 4;
            check.due("a count of " + count, may ? 1 : 6, desk.about(c, 0));
            check.due("nothing goes down", may ? "-1" : "-2", Drive.down(desk, c));
        }
    }

    private static void accountsAtTheLastMethod() {
        TunnelDesk desk = new TunnelDesk();
        int c = desk.open();
        Drive.send(desk, c, 5, 2, 2);
        Drive.account(desk, "ab.c1");
        Drive.send(desk, c, 1);
        check.due("an account came on the way", 2, desk.about(c, 0));
        c = desk.open();
        Drive.send(desk, c, 5, 2, 0);
        desk.forget();
        Drive.send(desk, c, 1);
        check.due("the accounts went on the way", 3, desk.about(c, 0));
    }

    private static void password() {
        TunnelDesk desk = new TunnelDesk();
        Drive.account(desk, "ab.c1");
        int c = desk.open();
        Drive.send(desk, c, 5, 1, 2);
        Drive.down(desk, c);
        for (int b : Drive.LOGIN_AB_C1) {
            check.due("PASSWORD until its last byte", "2 0 0 0 0 0 0 0", Drive.about(desk, c));
            Drive.send(desk, c, b);
        }
        check.due("about, behind the password", "3 0 2 0 0 0 0 0", Drive.about(desk, c));
        check.due("down, behind the password", "1 0 -1", Drive.down(desk, c));
        int[][] wrong = {{1, 2, 'a', 'b', 2, 'c', '2'}, {1, 1, 'a', 2, 'c', '1'}, {1, 2, 'a', 'b', 1, 'c'},
            {1, 6, 255, 0, 1, 2, 3, 4, 6, 0, 0, 0, 0, 0, 0}, {1, 2, 'c', '1', 2, 'a', 'b'}};
        for (int[] bytes : wrong) {
            c = desk.open();
            Drive.send(desk, c, 5, 1, 2);
            Drive.send(desk, c, bytes);
            check.due("a wrong password ends it", "6 0 4 0 0 0 0 0", Drive.about(desk, c));
            check.due("down, behind a wrong one", "5 2 1 1 -2", Drive.down(desk, c));
            desk.free(c);
        }
    }

    private static void passwordOutOfBounds() {
        int[][] before = {{}, {1}, {1, 1, 'a'}};
        for (int[] start : before) {
            for (int b = 0; b < 256; b++) {
                TunnelDesk desk = new TunnelDesk();
                Drive.account(desk, "ab.c1");
                int c = desk.open();
                Drive.send(desk, c, 5, 1, 2);
                Drive.down(desk, c);
                Drive.send(desk, c, start);
                Drive.send(desk, c, b);
                boolean may = start.length == 0 ? b == 1 : b >= 1 && b <= 6;
                check.due("password, " + b + " behind " + start.length, may ? 2 : 6, desk.about(c, 0));
                check.due("nothing goes down", may ? "-1" : "-2", Drive.down(desk, c));
            }
        }
    }

    private static void requestForAddress() {
        TunnelDesk desk = new TunnelDesk();
        desk.rule(true, 1, 0xC0A80102, 32, 0x1234, 0x1234);
        int c = Drive.greeted(desk);
        for (int b : new int[] {5, 1, 0, 1, 192, 168, 1, 2, 0x12, 0x34}) {
            check.due("REQUEST until its last byte", "3 0 0 0 0 0 0 0", Drive.about(desk, c));
            Drive.send(desk, c, b);
        }
        check.due("CONNECTING", "4 0 0 0 0 " + 0xC0A80102 + " 0 " + 0x1234, Drive.about(desk, c));
        c = Drive.greeted(desk);
        Drive.send(desk, c, 5, 1, 0, 1, 192, 168, 1, 2, 0x34, 0x12);
        check.due("not let through", "6 0 10 0 0 " + 0xC0A80102 + " 0 " + 0x3412, Drive.about(desk, c));
        check.due("reply 2", "5 2" + REPLY_ZEROS + " -2", Drive.down(desk, c));
        check.due("the goal stays", "6 0 0 0 0 " + 0xC0A80102 + " 0 " + 0x3412, Drive.about(desk, c));
        desk.free(c);
        check.due("until it is free", "0 0 0 0 0 0 0 0", Drive.about(desk, c));
        desk.open();
        check.due("and opened again", "1 0 0 0 0 0 0 0", Drive.about(desk, c));
    }

    private static void requestForName() {
        TunnelDesk desk = new TunnelDesk();
        Drive.named(desk, true, "b.c", 0, 65535);
        desk.rule(true, 1, 0x01020304, 32, 65535, 65535);
        int c = Drive.greeted(desk);
        Drive.sendName(desk, c, 1, "a.b.c", 65535);
        check.due("a name", "4 0 0 0 0 0 5 65535", Drive.about(desk, c));
        c = Drive.greeted(desk);
        Drive.sendName(desk, c, 1, "001.2.3.4", 65535);
        check.due("a name that is an address", "4 0 0 0 0 " + 0x01020304 + " 0 65535", Drive.about(desk, c));
        c = Drive.greeted(desk);
        Drive.sendName(desk, c, 1, "z", 0);
        check.due("a name, not let through", "6 0 10 0 0 0 1 0", Drive.about(desk, c));
        c = Drive.greeted(desk);
        Drive.sendName(desk, c, 1, "0123456789ab.-c", 0);
        check.due("a name of 15", "6 0 10 0 0 0 15 0", Drive.about(desk, c));
        check.due("reply 2", "5 2" + REPLY_ZEROS + " -2", Drive.down(desk, c));
    }

    private static void requestReplies() {
        for (int command = 0; command < 256; command++) {
            TunnelDesk desk = Drive.lettingAll();
            int c = Drive.greeted(desk);
            Drive.send(desk, c, 5, command, 0, 1, 1, 2, 3, 4, 5);
            check.due("not before the last byte", 3, desk.about(c, 0));
            Drive.send(desk, c, 6);
            if (command != 1) {
                check.due("command " + command, "6 0 10 0 0 0 0 0", Drive.about(desk, c));
                check.due("reply 7", "5 7" + REPLY_ZEROS + " -2", Drive.down(desk, c));
            } else {
                check.due("command 1", 4, desk.about(c, 0));
            }
        }
        for (int type = 0; type < 256; type++) {
            TunnelDesk desk = Drive.lettingAll();
            int c = Drive.greeted(desk);
            Drive.send(desk, c, 5, 9, 0, type);
            if (type != 1 && type != 3) {
                check.due("reply 8 at once", "5 8" + REPLY_ZEROS + " -2", Drive.down(desk, c));
            } else {
                check.due("type " + type, 3, desk.about(c, 0));
            }
        }
        for (int command = 1; command < 3; command++) {
            for (int b = 0; b < 256; b++) {
                nameWithByte(command, b, 0);
                nameWithByte(command, b, 1);
                nameWithByte(command, b, 2);
            }
        }
    }

    private static void nameWithByte(int command, int b, int at) {
        TunnelDesk desk = Drive.lettingAll();
        int c = Drive.greeted(desk);
        int[] name = {'a', 'a', 'a'};
        name[at] = b;
        Drive.send(desk, c, 5, command, 0, 3, 3);
        Drive.send(desk, c, name);
        Drive.send(desk, c, 1);
        check.due("not before the last byte", 3, desk.about(c, 0));
        Drive.send(desk, c, 1);
        boolean may = b >= 'a' && b <= 'z' || b >= '0' && b <= '9' || b == '.' || b == '-';
        if (!may) {
            check.due("a bad name", "6 0 10 0 0 0 0 0", Drive.about(desk, c));
            check.due("reply 1", "5 1" + REPLY_ZEROS + " -2", Drive.down(desk, c));
        } else {
            check.due("a name with " + b, command == 1 ? "4 0 0 0 0 0 3 257" : "6 0 10 0 0 0 0 0",
                    Drive.about(desk, c));
        }
    }

    private static void requestOutOfBounds() {
        int[][] before = {{}, {5, 1}, {5, 1, 0, 3}};
        for (int[] start : before) {
            for (int b = 0; b < 256; b++) {
                TunnelDesk desk = Drive.lettingAll();
                int c = Drive.greeted(desk);
                Drive.send(desk, c, start);
                Drive.send(desk, c, b);
                boolean may = start.length == 0 ? b == 5 : start.length == 2 ? b == 0 : b >= 1 && b <= 15;
                check.due("request, " + b + " behind " + start.length, may ? 3 : 6, desk.about(c, 0));
                check.due("nothing goes down", may ? "-1" : "-2", Drive.down(desk, c));
            }
        }
    }

    private static void forgetOnTheWay() {
        TunnelDesk desk = Drive.lettingAll();
        Drive.account(desk, "ab.c1");
        int c = desk.open();
        Drive.send(desk, c, 5, 1, 2, 1, 2, 'a', 'b', 2, 'c');
        desk.forget();
        check.due("it goes on", 2, desk.about(c, 0));
        Drive.send(desk, c, '1');
        check.due("there is no such account any more", "5 2 1 1 -2", Drive.down(desk, c));
        desk.rule(true, 0, 0, 0, 0, 65535);
        c = Drive.greeted(desk);
        Drive.send(desk, c, 5, 1, 0, 1, 1, 2, 3, 4, 5);
        desk.forget();
        Drive.send(desk, c, 6);
        check.due("there is no rule any more", "5 2" + REPLY_ZEROS + " -2", Drive.down(desk, c));
    }

    private static void mostBytesDown() {
        TunnelDesk desk = Drive.lettingAll();
        Drive.account(desk, "ab.c1");
        int c = desk.open();
        Drive.send(desk, c, 5, 1, 2);
        Drive.send(desk, c, Drive.LOGIN_AB_C1);
        Drive.send(desk, c, 5, 1, 0, 1, 1, 2, 3, 4, 5, 6);
        desk.connected(c, true);
        check.due("greeting, password and reply", 14, desk.about(c, 2));
        check.due("the 15th", true, desk.give(c, 7));
        check.due("the 16th", true, desk.give(c, 8));
        check.due("the 17th", false, desk.give(c, 9));
        check.due("all in their order", "5 2 1 0 5 0" + REPLY_ZEROS + " 7 8 -1", Drive.down(desk, c));
    }
}
