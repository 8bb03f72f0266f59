import java.util.Random;
import java.util.concurrent.Callable;

/** The same calls, with fixed seeds, on a TunnelDesk and on a PlainDesk: each answer has to be the same. */
public final class SecondReadingTest {
    private static final Check check = new Check();
    private static final int RUNS = 3000;
    // An object is good for 512 calls; the last step and the last look at all that can be seen come behind this one.
    private static final int LAST_STEP = 430;
    private static final int[] ODD = {Integer.MIN_VALUE, -1, 0, 1, 2, 3, 4, 7, 8, 9, 31, 32, 33, 256, 65535, 65536,
        Integer.MAX_VALUE};

    private final TunnelDesk desk = new TunnelDesk();
    private final PlainDesk plain = new PlainDesk();
    private final long seed;
    private final Random random;
    private final AnyTalk talk;
    private final String[] unsaid = {"", "", "", ""};
    private int calls = 0;
    private boolean same = true;

    private SecondReadingTest(long givenSeed) {
        seed = givenSeed;
        random = new Random(givenSeed);
        talk = new AnyTalk(random);
    }

    public static void main(String[] args) {
        long runs = args.length > 0 ? Long.parseLong(args[0]) : RUNS;
        for (long seed = 0; seed < runs; seed++) {
            new SecondReadingTest(seed).run();
        }
        check.end("SecondReadingTest");
    }

    private void run() {
        int mostTicks = talk.any(1, 4, 31);
        if (!talk.once(4)) {
            rule(true, 0, 0, 0, 0, 65535);
        }
        if (talk.once(3)) {
            type(talk.any(AnyTalk.ACCOUNTS));
            account();
        }
        while (calls < LAST_STEP && same) {
            step(mostTicks);
            look();
        }
        for (int c = 0; c < 4; c++) {
            for (int what = 0; what < 8; what++) {
                about(c, what);
            }
        }
        check.due("seed " + seed + ", no call behind the 512th", true, calls <= 512);
    }

    /** After the first difference the two desks would differ in everything, so the run stops there. */
    private void both(String call, Callable<Object> one, Callable<Object> other) {
        if (!same) {
            return;
        }
        calls++;
        Object want = answer(other);
        Object got = answer(one);
        check.due("seed " + seed + ", call " + calls + ", " + call, want, got);
        same = want.equals(got);
    }

    private static Object answer(Callable<Object> call) {
        try {
            return call.call();
        } catch (Exception e) {
            return e.getClass().getName();
        }
    }

    private void step(int mostTicks) {
        switch (random.nextInt(24)) {
            case 0: case 1: anyRule(); break;
            case 2: type(talk.any(AnyTalk.NAMES)); break;
            case 3: typeAny(); break;
            case 4: type(talk.any(AnyTalk.NAMES)); named(); break;
            case 5: if (talk.once(3)) { named(); } break;
            case 6: if (talk.once(4)) { type(talk.any(AnyTalk.ACCOUNTS)); account(); } break;
            case 7: if (talk.once(2)) { account(); } break;
            case 8: if (talk.once(8)) { both("forget()", desk::forget, plain::forget); } break;
            case 9: case 10: lets(); break;
            case 11: case 12: open(); break;
            case 13: free(talk.once(10) ? connection() : connectionIn(6)); break;
            case 14: case 15: connected(connectionIn(4), !talk.once(5)); break;
            case 16: if (talk.once(3)) { finishBoth(connectionIn(5), talk.once(2)); } break;
            case 17: tick(random.nextInt(mostTicks)); break;
            case 18: give(connectionIn(5), random.nextInt(18)); break;
            case 19: up(connectionIn(5), random.nextInt(18)); break;
            case 20: down(connectionIn(5), random.nextInt(18)); break;
            case 21: send(connection(), anyByte()); break;
            default: say(connection(), random.nextInt(40)); break;
        }
    }

    private void look() {
        switch (random.nextInt(6)) {
            case 0: case 1: case 2: about(connection(), talk.once(30) ? talk.any(ODD) : random.nextInt(8)); break;
            case 3: both("full()", desk::full, plain::full); break;
            case 4: count(talk.once(10) ? talk.any(ODD) : random.nextInt(4)); break;
            default: break;
        }
    }

    private int connection() {
        return talk.once(40) ? talk.any(ODD) : random.nextInt(4);
    }

    /** Mostly one in this state, if there is one, since few of any calls would meet it. */
    private int connectionIn(int state) {
        int c = random.nextInt(4);
        for (int i = 0; i < 4 && !talk.once(20); i++) {
            if (plain.about((c + i) % 4, 0) == state) {
                return (c + i) % 4;
            }
        }
        return connection();
    }

    private int port() {
        return talk.once(20) ? talk.any(ODD) : talk.any(AnyTalk.PORTS);
    }

    private int anyByte() {
        return talk.once(20) ? talk.any(ODD) : random.nextInt(256);
    }

    private void anyRule() {
        int kind = talk.once(8) ? talk.any(ODD) : random.nextInt(2);
        int bits = talk.once(8) ? talk.any(ODD) : talk.any(0, 1, 8, 9, 31, 32);
        rule(!talk.once(3), kind, talk.any(AnyTalk.ADDRESSES), bits, talk.once(3) ? port() : 0,
                talk.once(3) ? port() : 65535);
    }

    private void rule(boolean lets, int kind, int address, int bits, int low, int high) {
        both("rule(" + lets + ", " + kind + ", " + address + ", " + bits + ", " + low + ", " + high + ")",
                () -> desk.rule(lets, kind, address, bits, low, high),
                () -> plain.rule(lets, kind, address, bits, low, high));
    }

    private void named() {
        boolean lets = !talk.once(3);
        int low = talk.once(3) ? port() : 0;
        int high = talk.once(3) ? port() : 65535;
        both("named(" + lets + ", " + low + ", " + high + ")", () -> desk.named(lets, low, high),
                () -> plain.named(lets, low, high));
    }

    private void account() {
        both("account()", desk::account, plain::account);
    }

    private void type(String text) {
        for (char c : text.toCharArray()) {
            both("type(" + (int) c + ")", () -> desk.type(c), () -> plain.type(c));
        }
    }

    private void typeAny() {
        type(talk.any("a", "z", "0", "9", ".", "-", "A", "Z", "`", "{", "/", ":", ",", "\u0161", "\uff11", "\u0000"));
    }

    private void lets() {
        int address = talk.any(AnyTalk.ADDRESSES);
        int port = port();
        both("lets(" + address + ", " + port + ")", () -> desk.lets(address, port), () -> plain.lets(address, port));
    }

    private void open() {
        int lowest = 0;
        while (lowest < 3 && plain.about(lowest, 0) != 0) {
            lowest++;
        }
        if (plain.about(lowest, 0) == 0) {
            unsaid[lowest] = talk.handshake(plain.count(1) > 0);
        }
        both("open()", desk::open, plain::open);
    }

    private void free(int c) {
        both("free(" + c + ")", () -> desk.free(c), () -> plain.free(c));
    }

    private void connected(int c, boolean stands) {
        both("connected(" + c + ", " + stands + ")", () -> {
            desk.connected(c, stands);
            return "";
        }, () -> {
            plain.connected(c, stands);
            return "";
        });
    }

    private void finishBoth(int c, boolean clientFirst) {
        finish(c, clientFirst);
        finish(c, talk.once(10) == clientFirst);
    }

    private void finish(int c, boolean client) {
        both("finish(" + c + ", " + client + ")", () -> {
            desk.finish(c, client);
            return "";
        }, () -> {
            plain.finish(c, client);
            return "";
        });
    }

    private void tick(int times) {
        for (int i = 0; i < times; i++) {
            both("tick()", desk::tick, plain::tick);
        }
    }

    private void give(int c, int times) {
        for (int i = 0; i < times; i++) {
            int b = anyByte();
            both("give(" + c + ", " + b + ")", () -> desk.give(c, b), () -> plain.give(c, b));
        }
    }

    private void up(int c, int times) {
        for (int i = 0; i < times; i++) {
            both("up(" + c + ")", () -> desk.up(c), () -> plain.up(c));
        }
    }

    private void down(int c, int times) {
        for (int i = 0; i < times; i++) {
            both("down(" + c + ")", () -> desk.down(c), () -> plain.down(c));
        }
    }

    private void send(int c, int b) {
        both("send(" + c + ", " + b + ")", () -> desk.send(c, b), () -> plain.send(c, b));
    }

    /** What is left of the handshake first, then any bytes; it stops where the rest would only be refused. */
    private void say(int c, int times) {
        if (c < 0 || c > 3) {
            send(c, anyByte());
            return;
        }
        for (int i = 0; i < times && plain.about(c, 0) != 0 && plain.about(c, 0) != 6; i++) {
            boolean scripted = !unsaid[c].isEmpty();
            send(c, scripted ? unsaid[c].charAt(0) : random.nextInt(256));
            unsaid[c] = scripted ? unsaid[c].substring(1) : "";
        }
    }

    private void about(int c, int what) {
        both("about(" + c + ", " + what + ")", () -> desk.about(c, what), () -> plain.about(c, what));
    }

    private void count(int what) {
        both("count(" + what + ")", () -> desk.count(what), () -> plain.count(what));
    }
}
