import java.util.Random;

/** Makes up what a client says in its handshake: mostly what the document asks for, sometimes with a fault in it. */
final class AnyTalk {
    static final int[] ADDRESSES = {0, 1, -1, Integer.MIN_VALUE, Integer.MAX_VALUE, 0x0a000001, 0x0a800001, 0xc0a80101,
        0x01020304};
    static final int[] PORTS = {0, 1, 79, 80, 81, 443, 65534, 65535};
    static final String[] NAMES = {"a", "b.a", "x.b.a", "ba", ".a", "a.", "1.2.3.4", "10.0.0.1", "10.128.0.1",
        "001.02.3.255", "1.2.3.256", "1.2.3", "1.2.3.4.5", "x.1.2.3.4", "2.3.4", "255.255.255.255", "0.0.0.0",
        "abcdefghijklmno", "bcdefghijklmnop", "-", ".", "..a", "c-3.a"};
    static final String[] ACCOUNTS = {"u.p", "u.q", "abcdef.ghijkl", "u.p.q", "u-1.9"};

    private static final String[] DIGITS = {"0", "1", "80", "080", "00080", "000080", "443", "6553", "65535", "65536",
        "99999", ""};

    private final Random random;

    AnyTalk(Random givenRandom) {
        random = givenRandom;
    }

    int any(int... of) {
        return of[random.nextInt(of.length)];
    }

    String any(String... of) {
        return of[random.nextInt(of.length)];
    }

    boolean once(int in) {
        return random.nextInt(in) == 0;
    }

    /** One character for each byte. */
    String handshake(boolean hasAccounts) {
        StringBuilder all = new StringBuilder();
        if (once(2)) {
            line(all);
        } else {
            greeting(all, hasAccounts);
            if (hasAccounts && !once(10)) {
                login(all);
            }
            request(all);
        }
        if (once(4)) {
            int at = random.nextInt(all.length());
            int near = all.charAt(at) + any(-1, 1) & 255;
            all.setCharAt(at, (char) (once(2) ? random.nextInt(256) : near));
        }
        return all.toString();
    }

    private void line(StringBuilder all) {
        all.append("CONNECT ").append(any(NAMES)).append(once(12) ? "p" : "").append(':');
        all.append(any(DIGITS)).append(once(10) ? "1\n\n" : "\n\n");
    }

    private void greeting(StringBuilder all, boolean hasAccounts) {
        int methods = once(10) ? any(0, 5) : any(1, 2, 3, 4);
        put(all, 5, methods);
        for (int i = 0; i < methods; i++) {
            put(all, any(0, 2, hasAccounts ? 2 : 0, 1, 255));
        }
    }

    private void login(StringBuilder all) {
        String account = any(any(ACCOUNTS), any(ACCOUNTS), any("ua.p", "u.pq", "u.Q", "abcdefg.h"));
        // Joined by a dot, the user u.p and the password q look like the account u.p.q.
        int dot = once(10) ? account.lastIndexOf('.') : account.indexOf('.');
        put(all, 1, dot);
        all.append(account, 0, dot);
        put(all, account.length() - dot - 1);
        all.append(account.substring(dot + 1));
    }

    private void request(StringBuilder all) {
        int type = once(12) ? any(0, 2, 4, 255) : any(1, 3);
        put(all, 5, once(10) ? any(0, 2, 3, 255) : 1, 0, type);
        if (type == 1) {
            int address = any(ADDRESSES);
            put(all, address >>> 24, address >> 16 & 255, address >> 8 & 255, address & 255);
        } else {
            String name = any(NAMES) + (once(12) ? any("A", "_", " ", "\u00ff", "bcdefghijklmnopq") : "");
            put(all, name.length());
            all.append(name);
        }
        int port = any(PORTS);
        put(all, port >> 8, port & 255);
    }

    private static void put(StringBuilder all, int... bytes) {
        for (int b : bytes) {
            all.append((char) b);
        }
    }
}
