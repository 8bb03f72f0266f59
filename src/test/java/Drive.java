/** Short ways of doing what most tests need with a desk. */
final class Drive {
    /** How many calls sight() makes: an object is good for 512 of them. */
    static final int SIGHT_CALLS = 4 * 8 + 4 + 5 + 1;
    static final int[] LOGIN_AB_C1 = {1, 2, 'a', 'b', 2, 'c', '1'};

    private Drive() {
    }

    static void type(TunnelDesk desk, String text) {
        for (int i = 0; i < text.length(); i++) {
            desk.type(text.charAt(i));
        }
    }

    static int named(TunnelDesk desk, boolean lets, String name, int low, int high) {
        type(desk, name);
        return desk.named(lets, low, high);
    }

    static int account(TunnelDesk desk, String text) {
        type(desk, text);
        return desk.account();
    }

    /** The pad has to be empty before, and holds the name behind it. */
    static boolean letsName(TunnelDesk desk, String name, int port) {
        type(desk, name);
        return desk.lets(0, port);
    }

    static TunnelDesk lettingAll() {
        TunnelDesk desk = new TunnelDesk();
        desk.rule(true, 0, 0, 0, 0, 65535);
        return desk;
    }

    static void send(TunnelDesk desk, int c, int... bytes) {
        for (int b : bytes) {
            if (!desk.send(c, b)) {
                throw new AssertionError("a byte was not taken");
            }
        }
    }

    static void sendText(TunnelDesk desk, int c, String text) {
        for (int i = 0; i < text.length(); i++) {
            send(desk, c, text.charAt(i));
        }
    }

    static void sendName(TunnelDesk desk, int c, int command, String name, int port) {
        send(desk, c, 5, command, 0, 3, name.length());
        sendText(desk, c, name);
        send(desk, c, port >> 8, port & 255);
    }

    static int greeted(TunnelDesk desk) {
        int c = desk.open();
        send(desk, c, 5, 1, 0);
        down(desk, c);
        return c;
    }

    static int connecting(TunnelDesk desk) {
        int c = desk.open();
        sendText(desk, c, "CONNECT a:1\n\n");
        return c;
    }

    static int relaying(TunnelDesk desk) {
        int c = connecting(desk);
        desk.connected(c, true);
        down(desk, c);
        return c;
    }

    static int ended(TunnelDesk desk) {
        int c = desk.open();
        desk.finish(c, true);
        return c;
    }

    /** A desk whose connection 0 is in this state, with empty rings. */
    static TunnelDesk inState(int state) {
        TunnelDesk desk = lettingAll();
        switch (state) {
            case 1: desk.open(); break;
            case 2:
                account(desk, "ab.c1");
                desk.open();
                send(desk, 0, 5, 1, 2);
                down(desk, 0);
                break;
            case 3: greeted(desk); break;
            case 4: connecting(desk); break;
            case 5: relaying(desk); break;
            case 6: ended(desk); break;
            default: break;
        }
        return desk;
    }

    /** All that can be taken out of DOWN, and the answer behind it. */
    static String down(TunnelDesk desk, int c) {
        StringBuilder taken = new StringBuilder();
        for (int i = 0; i < 40; i++) {
            int b = desk.down(c);
            taken.append(b).append(' ');
            if (b < 0) {
                break;
            }
        }
        return taken.toString().trim();
    }

    static String up(TunnelDesk desk, int c) {
        StringBuilder taken = new StringBuilder();
        for (int i = 0; i < 40; i++) {
            int b = desk.up(c);
            taken.append(b).append(' ');
            if (b < 0) {
                break;
            }
        }
        return taken.toString().trim();
    }

    static int ticks(TunnelDesk desk, int times) {
        int ended = 0;
        for (int i = 0; i < times; i++) {
            ended += desk.tick();
        }
        return ended;
    }

    static String about(TunnelDesk desk, int c) {
        StringBuilder all = new StringBuilder();
        for (int what = 0; what < 8; what++) {
            all.append(desk.about(c, what)).append(' ');
        }
        return all.toString().trim();
    }

    static String sight(TunnelDesk desk) {
        StringBuilder all = new StringBuilder();
        for (int c = 0; c < 4; c++) {
            all.append(about(desk, c)).append(" / ");
        }
        for (int what = 0; what < 4; what++) {
            all.append(desk.count(what)).append(' ');
        }
        for (int port : new int[] {0, 1, 80, 443, 65535}) {
            all.append(desk.lets(167772161, port)).append(' ');
        }
        return all.append(desk.full()).toString();
    }
}
