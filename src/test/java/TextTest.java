/** The handshake in text: promises 9 (send) and 16 (about, the goal). */
public final class TextTest {
    private static final Check check = new Check();
    private static final String STATUS_400 = "52 48 48 10 -2";

    public static void main(String[] args) {
        letThrough();
        everyOtherByte();
        edges();
        statuses();
        accountsAtTheLastByte();
        check.end("TextTest");
    }

    private static void letThrough() {
        TunnelDesk desk = new TunnelDesk();
        Drive.named(desk, true, "b", 0, 65535);
        desk.rule(true, 1, 0x7F000001, 32, 8080, 8080);
        String line = "CONNECT a.b:65535\n\n";
        int c = desk.open();
        for (int i = 0; i < line.length(); i++) {
            check.due("GREETING until the last byte", "1 0 0 0 " + (i > 0 ? 1 : 0) + " 0 0 0", Drive.about(desk, c));
            check.due("taken", true, desk.send(c, line.charAt(i)));
        }
        check.due("CONNECTING", "4 0 0 0 1 0 3 65535", Drive.about(desk, c));
        desk.connected(c, true);
        check.due("status 200", "50 48 48 10 -1", Drive.down(desk, c));
        check.due("RELAYING, still a text", "5 0 0 0 1 0 3 65535", Drive.about(desk, c));
        c = desk.open();
        Drive.sendText(desk, c, "CONNECT 127.0.0.1:08080\n\n");
        check.due("an address", "4 0 0 0 1 " + 0x7F000001 + " 0 8080", Drive.about(desk, c));
        desk.connected(c, false);
        check.due("status 502", "53 48 50 10 -2", Drive.down(desk, c));
        check.due("ENDED, with its goal", "6 0 0 0 1 " + 0x7F000001 + " 0 8080", Drive.about(desk, c));
    }

    /** At each place of a line, each byte that can't be there. */
    private static void everyOtherByte() {
        String line = "CONNECT a.b:80\n\n";
        for (int i = 1; i < line.length(); i++) {
            for (int b = 0; b < 256; b++) {
                TunnelDesk desk = Drive.lettingAll();
                int c = desk.open();
                Drive.sendText(desk, c, line.substring(0, i));
                Drive.send(desk, c, b);
                if (mayCome(line, i, b)) {
                    check.due(b + " may come at " + i, i == 15 ? 4 : 1, desk.about(c, 0));
                } else {
                    check.due(b + " at " + i, "6 0 4 0 1 0 0 0", Drive.about(desk, c));
                    check.due("status 400", STATUS_400, Drive.down(desk, c));
                }
            }
        }
    }

    private static boolean mayCome(String line, int i, int b) {
        if (i < 8 || i == 15) {
            return b == line.charAt(i);
        }
        boolean digit = b >= '0' && b <= '9';
        if (i < 12) {
            return digit || b >= 'a' && b <= 'z' || b == '.' || b == '-' || b == ':' && i > 8;
        }
        return digit || b == 10 && i > 12;
    }

    private static void edges() {
        String[] good = {"CONNECT 0123456789abcde:1\n\n", "CONNECT a:65535\n\n", "CONNECT a:00000\n\n",
            "CONNECT a:0\n\n", "CONNECT -:00001\n\n"};
        for (String line : good) {
            TunnelDesk desk = Drive.lettingAll();
            int c = desk.open();
            Drive.sendText(desk, c, line);
            check.due(line, 4, desk.about(c, 0));
        }
        // Just the last byte of each of these is one too many, or wrong.
        String[] bad = {"CONNECT 0123456789abcdef", "CONNECT a:123456", "CONNECT a:000000", "CONNECT a:65536\n",
            "CONNECT a:99999\n", "CONNECT :", "CONNECT a:\n", "CONNECT a:1\n1", "CONNECT  ", "Cc", "CONNECT A"};
        for (String line : bad) {
            TunnelDesk desk = Drive.lettingAll();
            int c = desk.open();
            Drive.sendText(desk, c, line.substring(0, line.length() - 1));
            check.due("until the last byte of " + line, 1, desk.about(c, 0));
            Drive.send(desk, c, line.charAt(line.length() - 1));
            check.due("state behind " + line, "6 0 4 0 1 0 0 0", Drive.about(desk, c));
            check.due("status behind " + line, STATUS_400, Drive.down(desk, c));
            check.refused(desk, "no more comes", IllegalStateException.class, () -> desk.send(c, 10));
        }
    }

    private static void statuses() {
        TunnelDesk desk = new TunnelDesk();
        desk.rule(true, 0, 0, 0, 5, 6);
        int c = Drive.connecting(desk);
        check.due("403 has a goal", "6 0 4 0 1 0 1 1", Drive.about(desk, c));
        check.due("status 403", "52 48 51 10 -2", Drive.down(desk, c));
        Drive.account(desk, "ab.c1");
        c = Drive.connecting(desk);
        check.due("407 has no goal", "6 0 4 0 1 0 0 0", Drive.about(desk, c));
        check.due("status 407", "52 48 55 10 -2", Drive.down(desk, c));
    }

    private static void accountsAtTheLastByte() {
        TunnelDesk desk = Drive.lettingAll();
        int c = desk.open();
        Drive.sendText(desk, c, "CONNECT a:1\n");
        Drive.account(desk, "ab.c1");
        Drive.send(desk, c, 10);
        check.due("an account came on the way", "52 48 55 10 -2", Drive.down(desk, c));
        c = desk.open();
        Drive.sendText(desk, c, "CONNECT a:1\n");
        desk.forget();
        desk.rule(true, 0, 0, 0, 0, 65535);
        Drive.send(desk, c, 10);
        check.due("the accounts went on the way", 4, desk.about(c, 0));
    }
}
