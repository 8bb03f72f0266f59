import java.util.NoSuchElementException;
import java.util.Random;

/** Runs of calls with any arguments: only what the document names is thrown, and what it bounds stays so. */
public final class AnyCallsTest {
    private static final Check check = new Check();
    private static final int[] BYTES = {5, 1, 0, 2, 3, 4, 'C', 'O', 'N', 'E', 'T', ' ', 'a', '.', ':', '1', 10, 255,
        256, -1};
    private static final int[] ODD = {Integer.MIN_VALUE, -1, 0, 1, 2, 8, 32, 33, 80, 65535, 65536, Integer.MAX_VALUE};

    private final Random random;
    private final TunnelDesk desk = new TunnelDesk();
    private int calls = 0;

    private AnyCallsTest(long seed) {
        random = new Random(seed);
    }

    public static void main(String[] args) {
        for (long seed = 0; seed < 20000; seed++) {
            new AnyCallsTest(seed).run(seed);
        }
        check.end("AnyCallsTest");
    }

    /** It stops where the next step could go beyond the 512 calls for which answers are promised. */
    private void run(long seed) {
        while (calls < 300) {
            step(seed, random.nextInt(24));
            if (random.nextInt(20) == 0) {
                bounds();
            }
        }
        bounds();
    }

    private void step(long seed, int which) {
        boolean looks = random.nextInt(20) == 0;
        String before = looks ? sight() : "";
        calls++;
        try {
            anyCall(which);
        } catch (NoSuchElementException | IllegalArgumentException | IllegalStateException e) {
            if (looks) {
                check.due("a refused call " + which + " changes nothing", before, sight());
            }
            // A subclass would be the machine's or the library's own.
            check.due("thrown by itself", true, e.getClass() == NoSuchElementException.class
                    || e.getClass() == IllegalArgumentException.class
                    || e.getClass() == IllegalStateException.class);
        } catch (RuntimeException e) {
            check.due("seed " + seed + ", a call of kind " + which, "nothing else thrown", e.toString());
        }
    }

    private String sight() {
        calls += Drive.SIGHT_CALLS;
        return Drive.sight(desk);
    }

    private void bounds() {
        calls += Drive.SIGHT_CALLS;
        for (int c = 0; c < 4; c++) {
            int state = desk.about(c, 0);
            int most = state == 0 || state == 6 ? 0 : state < 4 ? 7 : state == 4 ? 11 : 29;
            boolean inBounds = state >= 0 && state <= 6 && within(desk.about(c, 1), state == 4 || state == 5 ? 16 : 0)
                    && within(desk.about(c, 2), state == 0 ? 0 : 16) && within(desk.about(c, 3), most)
                    && within(desk.about(c, 6), 15) && within(desk.about(c, 7), 65535);
            if (!inBounds) {
                check.due("bounds", "held", Drive.about(desk, c));
            }
        }
        float full = desk.full();
        boolean counts = within(desk.count(0), 8) && within(desk.count(1), 3) && within(desk.count(2), 4)
                && within(desk.count(3), 15) && full >= 0f && full <= 1f;
        if (!counts) {
            check.due("bounds", "held", Drive.sight(desk));
        }
    }

    private static boolean within(int value, int most) {
        return value >= 0 && value <= most;
    }

    private int any(int[] of) {
        return of[random.nextInt(of.length)];
    }

    private int connection() {
        return random.nextInt(20) == 0 ? any(ODD) : random.nextInt(4);
    }

    private void anyCall(int which) {
        switch (which) {
            case 0: desk.type("ab.1-9A\u0161".charAt(random.nextInt(8))); break;
            case 1: desk.rule(true, random.nextInt(3), any(ODD), any(ODD), any(ODD), any(ODD)); break;
            case 2: desk.named(random.nextBoolean(), 0, any(ODD)); break;
            case 3: if (random.nextInt(5) == 0) { desk.account(); } break;
            case 4: if (random.nextInt(20) == 0) { desk.forget(); } break;
            case 5: case 6: desk.open(); break;
            case 7: if (random.nextInt(5) == 0) { desk.free(connection()); } break;
            case 8: desk.give(connection(), any(BYTES)); break;
            case 9: desk.connected(connection(), random.nextInt(4) > 0); break;
            case 10: desk.up(connection()); break;
            case 11: desk.down(connection()); break;
            case 12: if (random.nextInt(8) == 0) { desk.finish(connection(), random.nextBoolean()); } break;
            case 13: if (random.nextInt(3) == 0) { desk.tick(); } break;
            case 14: desk.about(any(ODD), any(ODD)); break;
            case 15: desk.lets(any(ODD), any(ODD)); break;
            case 16: desk.count(any(ODD)); break;
            case 17: desk.send(connection(), any(BYTES)); break;
            case 18: wholeHandshake("CONNECT a.1:80\n\n"); break;
            case 19: wholeHandshake("\u0005\u0001\u0000\u0005\u0001\u0000\u0003\u0002ab\u0001\u0001"); break;
            case 20: wholeHandshake("\u0005\u0002\u0000\u0002\u0001\u0001a\u0001b\u0005\u0001\u0000\u0001"); break;
            default: desk.send(connection(), random.nextInt(256)); break;
        }
    }

    private void wholeHandshake(String bytes) {
        int c = desk.open();
        if (c == TunnelDesk.NONE) {
            return;
        }
        int changed = random.nextInt(3 * bytes.length());
        calls += 2 * bytes.length();
        for (int i = 0; i < bytes.length() && desk.about(c, 0) != 6; i++) {
            desk.send(c, i == changed ? random.nextInt(256) : bytes.charAt(i));
        }
    }
}
