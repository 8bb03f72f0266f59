import java.nio.ByteBuffer;
import java.nio.charset.StandardCharsets;
import java.util.ArrayDeque;
import java.util.ArrayList;
import java.util.List;
import java.util.NoSuchElementException;
import java.util.regex.Matcher;
import java.util.regex.Pattern;

/**
 * The document read a second time, with the Java library and by other means than TunnelDesk has: each part of a
 * handshake is kept as a text and held against a pattern, and ticks are told by a clock that never goes back.
 */
final class PlainDesk {
    private static final Pattern GREETING = pattern("\\x05(?:" + counted(1, 4) + ")");
    private static final Pattern PASSWORD = pattern("\\x01(?:" + counted(1, 6) + ")(?:" + counted(1, 6) + ")");
    private static final Pattern REQUEST = pattern("\\x05.\\x00(?:\\x01.{4}|\\x03(?:" + counted(1, 15) + "))..");
    private static final Pattern ODD_TYPE = pattern("\\x05.\\x00[^\\x01\\x03]");
    private static final Pattern LINE = pattern("CONNECT ([a-z0-9.-]{1,15}):([0-9]{1,5})\\n\\n");
    private static final Pattern TOO_HIGH = pattern("[^:]*:([0-9]{5})\\n");
    private static final Pattern DOTTED = pattern("([0-9]{1,3})\\.([0-9]{1,3})\\.([0-9]{1,3})\\.([0-9]{1,3})");

    private static final class Line {
        int state = 0;
        ArrayDeque<Integer> up = new ArrayDeque<>();
        ArrayDeque<Integer> down = new ArrayDeque<>();
        String heard = "";
        boolean text = false;
        boolean clientDone = false;
        boolean targetDone = false;
        long since = 0;
        int address = 0;
        String name = "";
        int port = 0;
    }

    private static final class Entry {
        boolean lets;
        int kind;
        String bits = "";
        String name = "";
        int low;
        int high;
    }

    private final Line[] lines = {new Line(), new Line(), new Line(), new Line()};
    private final List<Entry> rules = new ArrayList<>();
    private final List<String> accounts = new ArrayList<>();
    private String pad = "";
    private long clock = 0;

    private static Pattern pattern(String text) {
        return Pattern.compile(text, Pattern.DOTALL);
    }

    private static String counted(int least, int most) {
        List<String> ways = new ArrayList<>();
        for (int n = least; n <= most; n++) {
            ways.add(String.format("\\x%02x.{%d}", n, n));
        }
        return String.join("|", ways);
    }

    boolean type(char c) {
        if (pad.length() == 15 || "abcdefghijklmnopqrstuvwxyz0123456789.-".indexOf(c) < 0) {
            return false;
        }
        pad += c;
        return true;
    }

    int rule(boolean lets, int kind, int address, int bits, int low, int high) {
        argument((kind == 0 || kind == 1 && 0 <= bits && bits <= 32) && 0 <= low && low <= high && high <= 65535);
        return add(lets, kind, kind == 1 ? binary(address).substring(0, bits) : "", "", low, high);
    }

    int named(boolean lets, int low, int high) {
        argument(!pad.isEmpty() && 0 <= low && low <= high && high <= 65535);
        int answer = add(lets, 2, "", pad, low, high);
        pad = "";
        return answer;
    }

    private int add(boolean lets, int kind, String bits, String name, int low, int high) {
        state(rules.size() < 8);
        Entry made = new Entry();
        made.lets = lets;
        made.kind = kind;
        made.bits = bits;
        made.name = name;
        made.low = low;
        made.high = high;
        rules.add(made);
        return rules.size();
    }

    int account() {
        argument(pad.matches("[a-z0-9-]{1,6}\\.[a-z0-9.-]{1,6}"));
        state(accounts.size() < 3);
        accounts.add(pad);
        pad = "";
        return accounts.size();
    }

    int forget() {
        int had = rules.size();
        rules.clear();
        accounts.clear();
        pad = "";
        return had;
    }

    int open() {
        for (int c = 0; c < 4; c++) {
            if (lines[c].state == 0) {
                lines[c] = new Line();
                become(lines[c], 1);
                return c;
            }
        }
        return -1;
    }

    int free(int c) {
        int had = used(c).state;
        lines[c] = new Line();
        return had;
    }

    boolean send(int c, int b) {
        Line x = used(c);
        argument(b >= 0 && b <= 255);
        state(x.state != 6 && !x.clientDone);
        if (x.state >= 4) {
            return into(x, x.up, b);
        }
        x.since = clock;
        x.heard += (char) b;
        if (x.state == 1 && x.heard.length() == 1 && b == 'C') {
            x.text = true;
        }
        if (x.text) {
            heardText(x);
        } else if (x.state == 1) {
            heardGreeting(x);
        } else if (x.state == 2) {
            heardPassword(x);
        } else {
            heardRequest(x);
        }
        return true;
    }

    private boolean into(Line x, ArrayDeque<Integer> ring, int b) {
        if (ring.size() == 16) {
            return false;
        }
        ring.add(b);
        x.since = clock;
        return true;
    }

    private void heardGreeting(Line x) {
        Matcher m = GREETING.matcher(x.heard);
        if (m.matches()) {
            int wanted = accounts.isEmpty() ? 0 : 2;
            boolean there = x.heard.substring(2).indexOf(wanted) >= 0;
            down(x, 5, there ? wanted : 255);
            become(x, !there ? 6 : wanted == 2 ? 2 : 3);
        } else if (!m.hitEnd()) {
            become(x, 6);
        }
    }

    private void heardPassword(Line x) {
        Matcher m = PASSWORD.matcher(x.heard);
        if (m.matches()) {
            int userEnd = 2 + x.heard.charAt(1);
            String user = x.heard.substring(2, userEnd);
            boolean there = false;
            for (String account : accounts) {
                there |= account.equals(user + "." + x.heard.substring(userEnd + 1)) && user.indexOf('.') < 0;
            }
            down(x, 1, there ? 0 : 1);
            become(x, there ? 3 : 6);
        } else if (!m.hitEnd()) {
            become(x, 6);
        }
    }

    private void heardRequest(Line x) {
        Matcher m = REQUEST.matcher(x.heard);
        if (m.matches()) {
            judge(x);
        } else if (ODD_TYPE.matcher(x.heard).matches()) {
            reply(x, 8);
        } else if (!m.hitEnd()) {
            become(x, 6);
        }
    }

    private void judge(Line x) {
        byte[] raw = x.heard.getBytes(StandardCharsets.ISO_8859_1);
        int end = raw.length;
        int port = (raw[end - 2] & 255) * 256 + (raw[end - 1] & 255);
        String name = raw[3] == 3 ? x.heard.substring(5, end - 2) : "";
        if (!name.matches("[a-z0-9.-]*")) {
            reply(x, 1);
        } else if (raw[1] != 1) {
            reply(x, 7);
        } else {
            int address = raw[3] == 1 ? ByteBuffer.wrap(raw, 4, 4).getInt() : 0;
            if (look(x, name, address, port)) {
                become(x, 4);
            } else {
                reply(x, 2);
            }
        }
    }

    private void heardText(Line x) {
        Matcher m = LINE.matcher(x.heard);
        Matcher high = TOO_HIGH.matcher(x.heard);
        if (high.matches() && Integer.parseInt(high.group(1)) > 65535) {
            status(x, "400");
        } else if (m.matches()) {
            if (!accounts.isEmpty()) {
                status(x, "407");
            } else if (look(x, m.group(1), 0, Integer.parseInt(m.group(2)))) {
                become(x, 4);
            } else {
                status(x, "403");
            }
        } else if (!m.hitEnd()) {
            status(x, "400");
        }
    }

    private boolean look(Line x, String name, int address, int port) {
        Integer dotted = dotted(name);
        x.address = dotted != null ? dotted : name.isEmpty() ? address : 0;
        x.name = dotted != null ? "" : name;
        x.port = port;
        return passes(x.name, x.address, port);
    }

    private static Integer dotted(String name) {
        Matcher m = DOTTED.matcher(name);
        if (!m.matches()) {
            return null;
        }
        String bits = "";
        for (int i = 1; i <= 4; i++) {
            int number = Integer.parseInt(m.group(i));
            if (number > 255) {
                return null;
            }
            bits += binary(number).substring(24);
        }
        return Integer.parseUnsignedInt(bits, 2);
    }

    private static String binary(int value) {
        return String.format("%32s", Integer.toBinaryString(value)).replace(' ', '0');
    }

    private boolean passes(String name, int address, int port) {
        for (Entry r : rules) {
            boolean meant = r.kind == 0 || r.kind == 1 && name.isEmpty() && binary(address).startsWith(r.bits)
                    || r.kind == 2 && (name.equals(r.name) || name.endsWith("." + r.name));
            if (meant && r.low <= port && port <= r.high) {
                return r.lets;
            }
        }
        return false;
    }

    private void reply(Line x, int r) {
        down(x, 5, r, 0, 1, 0, 0, 0, 0, 0, 0);
        if (r != 0) {
            become(x, 6);
        }
    }

    private void status(Line x, String digits) {
        down(x, digits.charAt(0), digits.charAt(1), digits.charAt(2), 10);
        if (!digits.equals("200")) {
            become(x, 6);
        }
    }

    private void down(Line x, int... bytes) {
        for (int b : bytes) {
            if (x.down.size() == 16) {
                throw new AssertionError("DOWN would hold more than 16 bytes");
            }
            x.down.add(b);
        }
    }

    private void become(Line x, int state) {
        x.state = state;
        x.since = clock;
        x.heard = x.text ? x.heard : "";
        if (state == 6) {
            x.up.clear();
        }
    }

    boolean give(int c, int b) {
        Line x = used(c);
        argument(b >= 0 && b <= 255);
        state(x.state == 5 && !x.targetDone);
        return into(x, x.down, b);
    }

    void connected(int c, boolean stands) {
        Line x = used(c);
        state(x.state == 4);
        if (x.text) {
            status(x, stands ? "200" : "502");
        } else {
            reply(x, stands ? 0 : 5);
        }
        become(x, stands ? 5 : 6);
    }

    int up(int c) {
        Line x = used(c);
        return take(x, x.up, x.clientDone);
    }

    int down(int c) {
        Line x = used(c);
        return take(x, x.down, x.targetDone);
    }

    private int take(Line x, ArrayDeque<Integer> ring, boolean done) {
        if (ring.isEmpty()) {
            return done || x.state == 6 ? -2 : -1;
        }
        x.since = clock;
        int b = ring.remove();
        close(x);
        return b;
    }

    private void close(Line x) {
        if (x.state == 5 && x.clientDone && x.targetDone && x.up.isEmpty() && x.down.isEmpty()) {
            become(x, 6);
        }
    }

    void finish(int c, boolean client) {
        Line x = used(c);
        state(x.state != 6 && !(client ? x.clientDone : x.targetDone) && (client || x.state == 5));
        if (x.state < 5) {
            become(x, 6);
        } else if (client) {
            x.clientDone = true;
        } else {
            x.targetDone = true;
        }
        close(x);
    }

    int tick() {
        clock++;
        int ended = 0;
        for (Line x : lines) {
            int most = new int[] {0, 8, 8, 8, 12, 30, 0}[x.state];
            if (most > 0 && clock - x.since == most) {
                become(x, 6);
                ended++;
            }
        }
        return ended;
    }

    int about(int c, int what) {
        if (c < 0 || c > 3) {
            throw new NoSuchElementException();
        }
        argument(what >= 0 && what <= 7);
        Line x = lines[c];
        long counted = x.state == 0 || x.state == 6 ? 0 : clock - x.since;
        return new int[] {x.state, x.up.size(), x.down.size(), (int) counted, x.text ? 1 : 0, x.address,
            x.name.length(), x.port}[what];
    }

    boolean lets(int address, int port) {
        argument(port >= 0 && port <= 65535);
        Integer dotted = dotted(pad);
        return dotted != null ? passes("", dotted, port) : passes(pad, pad.isEmpty() ? address : 0, port);
    }

    float full() {
        int bytes = 0;
        int room = 0;
        for (Line x : lines) {
            bytes += x.state == 0 ? 0 : x.up.size() + x.down.size();
            room += x.state == 0 ? 0 : 32;
        }
        return room == 0 ? 0f : (float) bytes / room;
    }

    int count(int what) {
        argument(what >= 0 && what <= 3);
        int used = 0;
        for (Line x : lines) {
            used += x.state == 0 ? 0 : 1;
        }
        return new int[] {rules.size(), accounts.size(), used, pad.length()}[what];
    }

    private Line used(int c) {
        if (c < 0 || c > 3 || lines[c].state == 0) {
            throw new NoSuchElementException();
        }
        return lines[c];
    }

    private static void argument(boolean holds) {
        if (!holds) {
            throw new IllegalArgumentException();
        }
    }

    private static void state(boolean holds) {
        if (!holds) {
            throw new IllegalStateException();
        }
    }
}
