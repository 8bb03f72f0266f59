import java.util.NoSuchElementException;
import java.util.function.Consumer;

/** "EXCEPTIONS" in "Terms": the order of the exceptions, and that a call that ends by one changes nothing. */
public final class BoundsOfRefusalsTest {
    private static final Check check = new Check();
    private static final Class<NoSuchElementException> NONE_SUCH = NoSuchElementException.class;
    private static final Class<IllegalArgumentException> ARGUMENT = IllegalArgumentException.class;
    private static final Class<IllegalStateException> STATE = IllegalStateException.class;

    public static void main(String[] args) {
        check.sentence("NoSuchElementException: there is no such connection", BoundsOfRefusalsTest::noSuch);
        check.sentence("or it is free", BoundsOfRefusalsTest::freeOne);
        check.sentence("a call ends by the first of these that holds (before IllegalArgumentException)",
                BoundsOfRefusalsTest::noSuchBeforeArgument);
        check.sentence("IllegalArgumentException, then IllegalStateException, as told (send, give)",
                BoundsOfRefusalsTest::argumentBeforeStateOfBytes);
        check.sentence("IllegalArgumentException, then IllegalStateException, as told (rule, named)",
                BoundsOfRefusalsTest::argumentBeforeStateOfRules);
        check.sentence("IllegalArgumentException, then IllegalStateException, as told (account)",
                BoundsOfRefusalsTest::argumentBeforeStateOfAccounts);
        check.sentence("Such a call changes nothing. (rings and ticks)", BoundsOfRefusalsTest::ringsAndTicksStay);
        check.sentence("Such a call changes nothing. (a handshake that is on)", BoundsOfRefusalsTest::handshakeStays);
        check.sentence("Such a call changes nothing. (sides that finished or did not)",
                BoundsOfRefusalsTest::sidesStay);
        check.sentence("Such a call changes nothing. (pad, rules, accounts)", BoundsOfRefusalsTest::padStays);
        check.end("BoundsOfRefusalsTest");
    }

    private static void onNew(String what, Class<? extends RuntimeException> want, int state,
            Consumer<TunnelDesk> call) {
        TunnelDesk desk = Drive.inState(state);
        check.refused(desk, what + ", state " + state, want, () -> call.accept(desk));
    }

    /** Every call that takes a connection's number, with arguments that could not be better. */
    private static void eachCall(int c, int state) {
        onNew("free " + c, NONE_SUCH, state, desk -> desk.free(c));
        onNew("send " + c, NONE_SUCH, state, desk -> desk.send(c, 5));
        onNew("give " + c, NONE_SUCH, state, desk -> desk.give(c, 5));
        onNew("connected " + c, NONE_SUCH, state, desk -> desk.connected(c, true));
        onNew("up " + c, NONE_SUCH, state, desk -> desk.up(c));
        onNew("down " + c, NONE_SUCH, state, desk -> desk.down(c));
        onNew("finish " + c, NONE_SUCH, state, desk -> desk.finish(c, true));
        onNew("finish " + c, NONE_SUCH, state, desk -> desk.finish(c, false));
    }

    private static void noSuch() {
        for (int c : new int[] {-1, 4, Integer.MIN_VALUE, Integer.MAX_VALUE}) {
            eachCall(c, 5);
            onNew("about " + c, NONE_SUCH, 5, desk -> desk.about(c, 0));
        }
    }

    private static void freeOne() {
        for (int c : new int[] {0, 3}) {
            eachCall(c, 0);
            check.due("about a free one is no such call", 0, new TunnelDesk().about(c, 0));
        }
        TunnelDesk desk = Drive.inState(5);
        desk.free(0);
        check.refused(desk, "one that was opened before", NONE_SUCH, () -> desk.up(0));
    }

    private static void noSuchBeforeArgument() {
        for (int c : new int[] {-1, 0, 4}) {
            onNew("send no byte, " + c, NONE_SUCH, 0, desk -> desk.send(c, 256));
            onNew("give no byte, " + c, NONE_SUCH, 0, desk -> desk.give(c, -1));
        }
        for (int c : new int[] {-1, 4}) {
            onNew("about nothing, " + c, NONE_SUCH, 0, desk -> desk.about(c, 8));
        }
        onNew("about nothing of a free one", ARGUMENT, 0, desk -> desk.about(0, 8));
    }

    private static void argumentBeforeStateOfBytes() {
        onNew("send no byte, ENDED", ARGUMENT, 6, desk -> desk.send(0, 256));
        onNew("send a byte, ENDED", STATE, 6, desk -> desk.send(0, 255));
        for (int state : new int[] {1, 2, 3, 4, 6}) {
            onNew("give no byte", ARGUMENT, state, desk -> desk.give(0, -1));
            onNew("give a byte", STATE, state, desk -> desk.give(0, 0));
        }
        TunnelDesk desk = Drive.inState(5);
        desk.finish(0, true);
        check.refused(desk, "send no byte, finished", ARGUMENT, () -> desk.send(0, -1));
        TunnelDesk other = Drive.inState(5);
        other.finish(0, false);
        check.refused(other, "give no byte, finished", ARGUMENT, () -> other.give(0, 256));
    }

    private static TunnelDesk withRules(int rules) {
        TunnelDesk desk = new TunnelDesk();
        for (int i = 0; i < rules; i++) {
            desk.rule(false, 0, 0, 0, 0, 1);
        }
        return desk;
    }

    private static void argumentBeforeStateOfRules() {
        int[][] wrong = {{2, 0, 0, 1}, {1, 33, 0, 1}, {0, 0, -1, 1}, {0, 0, 2, 1}, {0, 0, 0, 65536}};
        for (int[] w : wrong) {
            TunnelDesk desk = withRules(8);
            check.refused(desk, "a 9th rule, wrong", ARGUMENT, () -> desk.rule(true, w[0], 0, w[1], w[2], w[3]));
        }
        TunnelDesk desk = withRules(8);
        check.refused(desk, "a 9th rule", STATE, () -> desk.rule(true, 0, 0, 0, 0, 1));
        check.refused(desk, "a 9th, with an empty pad", ARGUMENT, () -> desk.named(true, 0, 1));
        desk.type('a');
        check.refused(desk, "a 9th, with wrong ports", ARGUMENT, () -> desk.named(true, 2, 1));
        check.refused(desk, "a 9th, named", STATE, () -> desk.named(true, 0, 1));
    }

    private static void argumentBeforeStateOfAccounts() {
        for (String text : new String[] {"", "ab", ".b", "a.", "abcdefg.b", "a.bcdefgh"}) {
            TunnelDesk desk = withAccounts();
            Drive.type(desk, text);
            check.refused(desk, "a 4th account of " + text, ARGUMENT, desk::account);
        }
        TunnelDesk desk = withAccounts();
        Drive.type(desk, "d.d");
        check.refused(desk, "a 4th account", STATE, desk::account);
    }

    private static TunnelDesk withAccounts() {
        TunnelDesk desk = new TunnelDesk();
        Drive.account(desk, "a.a");
        Drive.account(desk, "b.b");
        Drive.account(desk, "c.c");
        return desk;
    }

    private static void ringsAndTicksStay() {
        TunnelDesk desk = Drive.inState(5);
        Drive.send(desk, 0, 1, 2);
        desk.give(0, 3);
        desk.finish(0, true);
        Drive.ticks(desk, 6);
        check.refused(desk, "send", STATE, () -> desk.send(0, 9));
        check.refused(desk, "give", ARGUMENT, () -> desk.give(0, 256));
        check.refused(desk, "connected", STATE, () -> desk.connected(0, false));
        check.due("ticks", 6, desk.about(0, 3));
        check.due("up", "1 2 -2", Drive.up(desk, 0));
        check.due("down", "3 -1", Drive.down(desk, 0));
    }

    private static void handshakeStays() {
        String line = "CONNECT a:1\n\n";
        for (int at = 0; at < line.length(); at++) {
            TunnelDesk desk = Drive.lettingAll();
            desk.open();
            Drive.sendText(desk, 0, line.substring(0, at));
            check.refused(desk, "send", ARGUMENT, () -> desk.send(0, 256));
            check.refused(desk, "give", STATE, () -> desk.give(0, 0));
            check.refused(desk, "finish", STATE, () -> desk.finish(0, false));
            Drive.sendText(desk, 0, line.substring(at));
            check.due("the line goes on behind " + at, "4 0 0 0 1 0 1 1", Drive.about(desk, 0));
        }
        int[] bytes = {5, 1, 0, 5, 1, 0, 3, 1, 'a', 0, 1};
        for (int at = 0; at < bytes.length; at++) {
            TunnelDesk desk = Drive.lettingAll();
            desk.open();
            for (int i = 0; i < bytes.length; i++) {
                if (i == at) {
                    check.refused(desk, "send", ARGUMENT, () -> desk.send(0, -1));
                    check.refused(desk, "connected", STATE, () -> desk.connected(0, true));
                }
                Drive.send(desk, 0, bytes[i]);
            }
            check.due("the bytes go on behind " + at, "4 0 2 0 0 0 1 1", Drive.about(desk, 0));
        }
    }

    private static void sidesStay() {
        TunnelDesk desk = Drive.inState(4);
        check.refused(desk, "the target, CONNECTING", STATE, () -> desk.finish(0, false));
        desk.connected(0, true);
        check.due("the target has not finished", true, desk.give(0, 1));
        Drive.down(desk, 0);
        check.due("nor is DOWN over", TunnelDesk.NONE, desk.down(0));
        desk.finish(0, true);
        check.refused(desk, "the client again", STATE, () -> desk.finish(0, true));
        check.due("it is not ended by that", 5, desk.about(0, 0));
    }

    private static void padStays() {
        TunnelDesk desk = withAccounts();
        desk.rule(true, 1, 0x01010101, 32, 0, 65535);
        Drive.type(desk, "1.1.1");
        check.refused(desk, "account", STATE, desk::account);
        check.refused(desk, "named", ARGUMENT, () -> desk.named(false, 0, 65536));
        check.refused(desk, "rule", ARGUMENT, () -> desk.rule(false, 0, 0, 0, -1, 65535));
        check.refused(desk, "lets", ARGUMENT, () -> desk.lets(0, 65536));
        Drive.type(desk, ".1");
        check.due("the pad goes on", true, desk.lets(0, 1));
        check.due("rules, accounts, pad", "1 3 7", desk.count(0) + " " + desk.count(1) + " " + desk.count(3));
    }
}
