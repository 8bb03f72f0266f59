import java.util.NoSuchElementException;

/** Promises 9 to 14 and 16 to 19: a test for each sentence that names a bound, on both sides of it. */
public final class BoundsOfRelayTest {
    private static final Check check = new Check();
    private static final Class<IllegalArgumentException> ARGUMENT = IllegalArgumentException.class;
    private static final Class<IllegalStateException> STATE = IllegalStateException.class;
    private static final int LEAST = Integer.MIN_VALUE, MOST = Integer.MAX_VALUE;
    private static final String ALL_ZERO = "0 0 0 0 0 0 0 0";

    public static void main(String[] args) {
        bytesInAndOut();
        finishing();
        looking();
        check.end("BoundsOfRelayTest");
    }

    private static void bytesInAndOut() {
        check.sentence("9: false, and it is to come again, when UP is full", BoundsOfRelayTest::sendFull);
        check.sentence("9: IllegalArgumentException: b is no byte.", BoundsOfRelayTest::sendNoByte);
        check.sentence("9: IllegalStateException: it is ended, or the client has finished.",
                BoundsOfRelayTest::sendEnded);
        check.sentence("10: false when DOWN is full", BoundsOfRelayTest::giveFull);
        check.sentence("10: IllegalArgumentException: b is no byte.", BoundsOfRelayTest::giveNoByte);
        check.sentence("10: IllegalStateException: the state is not RELAYING, or the target has finished.",
                BoundsOfRelayTest::giveNotRelaying);
        check.sentence("11: IllegalStateException: the state is not CONNECTING.", BoundsOfRelayTest::connectedElse);
        check.sentence("12: NONE if there is none, OVER if there is none and the client has finished, or it is ended.",
                BoundsOfRelayTest::upOver);
        check.sentence("13: NONE if there is none, OVER if there is none and the target has finished, or it is ended.",
                BoundsOfRelayTest::downOver);
    }

    private static void sendFull() {
        for (int state = 4; state <= 5; state++) {
            TunnelDesk desk = Drive.inState(state);
            for (int i = 0; i < 15; i++) {
                desk.send(0, i);
            }
            check.due("the 16th", true, desk.send(0, 15));
            check.due("the 17th", false, desk.send(0, 16));
            check.due("it is not there", 16, desk.about(0, 1));
            check.due("the first one goes", 0, desk.up(0));
            check.due("the 17th comes again", true, desk.send(0, 16));
            check.due("in its place", "1 2 3 4 5 6 7 8 9 10 11 12 13 14 15 16 -1", Drive.up(desk, 0));
        }
    }

    private static void sendNoByte() {
        for (int state = 1; state <= 6; state++) {
            for (int b : new int[] {-1, 256, LEAST, MOST}) {
                TunnelDesk desk = Drive.inState(state);
                check.refused(desk, "send " + b + " in state " + state, ARGUMENT, () -> desk.send(0, b));
            }
        }
        TunnelDesk full = Drive.inState(5);
        for (int i = 0; i < 16; i++) {
            full.send(0, i);
        }
        check.refused(full, "send 256, and UP is full", ARGUMENT, () -> full.send(0, 256));
        check.due("send 0", true, Drive.inState(5).send(0, 0));
        check.due("send 255", true, Drive.inState(5).send(0, 255));
    }

    private static void sendEnded() {
        for (int state = 1; state <= 5; state++) {
            TunnelDesk desk = Drive.inState(state);
            check.due("state " + state, true, desk.send(0, 0));
        }
        TunnelDesk ended = Drive.inState(6);
        check.refused(ended, "ENDED", STATE, () -> ended.send(0, 0));
        TunnelDesk desk = Drive.inState(5);
        for (int i = 0; i < 16; i++) {
            desk.send(0, i);
        }
        desk.finish(0, true);
        check.refused(desk, "finished, and UP is full", STATE, () -> desk.send(0, 0));
    }

    private static void giveFull() {
        TunnelDesk desk = Drive.inState(4);
        desk.connected(0, true);
        for (int i = 0; i < 11; i++) {
            desk.give(0, i);
        }
        check.due("the 12th, behind a status", true, desk.give(0, 11));
        check.due("the 13th", false, desk.give(0, 12));
        check.due("it is not there", 16, desk.about(0, 2));
        check.due("the first one goes", '2' + 0, desk.down(0));
        check.due("the 13th comes again", true, desk.give(0, 12));
        check.due("in its place", "48 48 10 0 1 2 3 4 5 6 7 8 9 10 11 12 -1", Drive.down(desk, 0));
    }

    private static void giveNoByte() {
        for (int state = 1; state <= 6; state++) {
            for (int b : new int[] {-1, 256, LEAST, MOST}) {
                TunnelDesk desk = Drive.inState(state);
                check.refused(desk, "give " + b + " in state " + state, ARGUMENT, () -> desk.give(0, b));
            }
        }
        TunnelDesk full = Drive.inState(5);
        for (int i = 0; i < 16; i++) {
            full.give(0, i);
        }
        check.refused(full, "give -1, and DOWN is full", ARGUMENT, () -> full.give(0, -1));
        check.due("give 0", true, Drive.inState(5).give(0, 0));
        check.due("give 255", true, Drive.inState(5).give(0, 255));
    }

    private static void giveNotRelaying() {
        for (int state : new int[] {1, 2, 3, 4, 6}) {
            TunnelDesk desk = Drive.inState(state);
            check.refused(desk, "state " + state, STATE, () -> desk.give(0, 0));
        }
        TunnelDesk desk = Drive.inState(5);
        check.due("RELAYING", true, desk.give(0, 0));
        desk.finish(0, true);
        check.due("the client alone has finished", true, desk.give(0, 0));
        for (int i = 2; i < 16; i++) {
            desk.give(0, i);
        }
        desk.finish(0, false);
        check.refused(desk, "finished, and DOWN is full", STATE, () -> desk.give(0, 0));
    }

    private static void connectedElse() {
        for (int state : new int[] {1, 2, 3, 5, 6}) {
            for (boolean stands : new boolean[] {true, false}) {
                TunnelDesk desk = Drive.inState(state);
                check.refused(desk, "state " + state, STATE, () -> desk.connected(0, stands));
            }
        }
        for (boolean stands : new boolean[] {true, false}) {
            TunnelDesk desk = Drive.inState(4);
            desk.connected(0, stands);
            check.due("CONNECTING", stands ? 5 : 6, desk.about(0, 0));
            check.refused(desk, "twice", STATE, () -> desk.connected(0, stands));
        }
    }

    private static void upOver() {
        for (int state = 1; state <= 6; state++) {
            check.due("state " + state, state == 6 ? TunnelDesk.OVER : TunnelDesk.NONE, Drive.inState(state).up(0));
        }
        TunnelDesk desk = Drive.inState(5);
        Drive.send(desk, 0, 0, 255);
        desk.finish(0, false);
        check.due("the first one", 0, desk.up(0));
        desk.finish(0, true);
        check.due("the last one, finished", 255, desk.up(0));
        check.due("none", TunnelDesk.OVER, desk.up(0));
        TunnelDesk client = Drive.inState(5);
        client.finish(0, true);
        check.due("the client has finished", TunnelDesk.OVER, client.up(0));
        TunnelDesk target = Drive.inState(5);
        target.finish(0, false);
        check.due("the target has finished", TunnelDesk.NONE, target.up(0));
    }

    private static void downOver() {
        for (int state = 1; state <= 6; state++) {
            check.due("state " + state, state == 6 ? TunnelDesk.OVER : TunnelDesk.NONE, Drive.inState(state).down(0));
        }
        TunnelDesk desk = Drive.inState(5);
        desk.give(0, 0);
        desk.give(0, 255);
        desk.finish(0, true);
        check.due("the first one", 0, desk.down(0));
        desk.finish(0, false);
        check.due("the last one, finished", 255, desk.down(0));
        check.due("none", TunnelDesk.OVER, desk.down(0));
        TunnelDesk target = Drive.inState(5);
        target.finish(0, false);
        check.due("the target has finished", TunnelDesk.OVER, target.down(0));
        TunnelDesk client = Drive.inState(5);
        client.finish(0, true);
        check.due("the client has finished", TunnelDesk.NONE, client.down(0));
    }

    private static void finishing() {
        check.sentence("14: In the states 1 to 4 the client's ends the connection.", BoundsOfRelayTest::clientEnds);
        check.sentence("14: IllegalStateException: it is ended", BoundsOfRelayTest::finishEnded);
        check.sentence("14: that side has finished already", BoundsOfRelayTest::finishTwice);
        check.sentence("14: or it is the target's, and the state is not RELAYING",
                BoundsOfRelayTest::targetElsewhere);
    }

    private static void clientEnds() {
        for (int state = 1; state <= 5; state++) {
            TunnelDesk desk = Drive.inState(state);
            desk.finish(0, true);
            check.due("the client in state " + state, state == 5 ? 5 : 6, desk.about(0, 0));
            check.due("nothing goes down", 0, desk.about(0, 2));
        }
    }

    private static void finishEnded() {
        for (boolean client : new boolean[] {true, false}) {
            TunnelDesk desk = Drive.inState(6);
            check.refused(desk, "ENDED", STATE, () -> desk.finish(0, client));
            TunnelDesk other = Drive.inState(5);
            Drive.ticks(other, 29);
            check.due("not yet", 5, other.about(0, 0));
            other.tick();
            check.refused(other, "ENDED by ticks", STATE, () -> other.finish(0, client));
        }
    }

    private static void finishTwice() {
        for (boolean client : new boolean[] {true, false}) {
            TunnelDesk desk = Drive.inState(5);
            desk.finish(0, client);
            check.refused(desk, "the same side", STATE, () -> desk.finish(0, client));
            check.due("one alone", 5, desk.about(0, 0));
            desk.finish(0, !client);
            check.due("the other side", 6, desk.about(0, 0));
        }
    }

    private static void targetElsewhere() {
        for (int state : new int[] {1, 2, 3, 4}) {
            TunnelDesk desk = Drive.inState(state);
            check.refused(desk, "the target in state " + state, STATE, () -> desk.finish(0, false));
        }
        TunnelDesk desk = Drive.inState(5);
        desk.finish(0, false);
        check.due("the target in RELAYING", TunnelDesk.OVER, desk.down(0));
    }

    private static void looking() {
        check.sentence("16: 0 the state, .. 7 its port", BoundsOfRelayTest::aboutEach);
        check.sentence("16: 4 whether its handshake is a text (1 or 0)", BoundsOfRelayTest::aboutText);
        check.sentence("16: 5 to 7 are 0 until the goal is looked at by the rules", BoundsOfRelayTest::aboutGoal);
        check.sentence("16: (0 for a free one.)", BoundsOfRelayTest::aboutFree);
        check.sentence("16: The goal stays, let through or not, until the connection is free.",
                BoundsOfRelayTest::aboutGoalStays);
        check.sentence("16: NoSuchElementException: there is no such connection.", BoundsOfRelayTest::aboutNone);
        check.sentence("16: IllegalArgumentException: what is none of these.", BoundsOfRelayTest::aboutNothing);
        check.sentence("17: an address, or (when the pad is not empty) the name that is the pad's text, as a name or"
                + " address", BoundsOfRelayTest::letsPad);
        check.sentence("17: The pad stays.", BoundsOfRelayTest::letsPadStays);
        check.sentence("17: IllegalArgumentException: port is not 0 .. 65535.", BoundsOfRelayTest::letsPort);
        check.sentence("18: the bytes in them, divided by how many there could be", BoundsOfRelayTest::fullParts);
        check.sentence("18: 0f if all are free", BoundsOfRelayTest::fullFree);
        check.sentence("19: 0 how many rules, 1 accounts, 2 connections that are not free, 3 characters in the pad.",
                BoundsOfRelayTest::countEach);
        check.sentence("19: IllegalArgumentException: what is none of these.", BoundsOfRelayTest::countNothing);
    }

    private static void aboutEach() {
        TunnelDesk desk = Drive.lettingAll();
        desk.open();
        Drive.sendText(desk, 0, "CONNECT 255.0.0.1:65535\n\n");
        desk.connected(0, true);
        for (int i = 0; i < 16; i++) {
            desk.send(0, i);
        }
        for (int i = 0; i < 12; i++) {
            desk.give(0, i);
        }
        Drive.ticks(desk, 29);
        check.due("the most of each", "5 16 16 29 1 " + 0xFF000001 + " 0 65535", Drive.about(desk, 0));
        desk.open();
        Drive.sendText(desk, 1, "CONNECT abcdefghijklmno:0\n\n");
        check.due("a name", "4 0 0 0 1 0 15 0", Drive.about(desk, 1));
    }

    private static void aboutText() {
        TunnelDesk desk = new TunnelDesk();
        desk.open();
        check.due("before the first byte", 0, desk.about(0, 4));
        desk.send(0, 'C');
        check.due("a text", 1, desk.about(0, 4));
        desk.send(0, 'C');
        check.due("a text that is ended", "6 1", desk.about(0, 0) + " " + desk.about(0, 4));
        desk.open();
        desk.send(1, 5);
        check.due("binary", 0, desk.about(1, 4));
        desk.open();
        desk.send(2, 'D');
        check.due("neither", "6 0", desk.about(2, 0) + " " + desk.about(2, 4));
    }

    private static void aboutGoal() {
        int[] bytes = {5, 1, 0, 5, 1, 0, 1, 9, 9, 9, 9, 9, 9};
        TunnelDesk desk = Drive.lettingAll();
        desk.open();
        for (int b : bytes) {
            check.due("before the last byte", "0 0 0", goalOf(desk, 0));
            desk.send(0, b);
        }
        check.due("behind it", 0x09090909 + " 0 " + 0x0909, goalOf(desk, 0));
        desk.open();
        String line = "CONNECT abc:99\n\n";
        for (char b : line.toCharArray()) {
            check.due("before the last byte", "0 0 0", goalOf(desk, 1));
            desk.send(1, b);
        }
        check.due("behind it", "0 3 99", goalOf(desk, 1));
        int command = Drive.greeted(desk);
        Drive.sendName(desk, command, 2, "abc", 99);
        check.due("reply 7: the rules did not look", "0 0 0", goalOf(desk, command));
        int name = Drive.greeted(desk);
        Drive.sendName(desk, name, 1, "aBc", 99);
        check.due("reply 1: the rules did not look", "0 0 0", goalOf(desk, name));
        Drive.account(desk, "a.b");
        desk.free(0);
        Drive.sendText(desk, desk.open(), line);
        check.due("407: the rules did not look", "0 0 0", goalOf(desk, 0));
    }

    private static String goalOf(TunnelDesk desk, int c) {
        return desk.about(c, 5) + " " + desk.about(c, 6) + " " + desk.about(c, 7);
    }

    private static void aboutFree() {
        TunnelDesk desk = Drive.inState(5);
        for (int c = 1; c < 4; c++) {
            check.due("never opened", ALL_ZERO, Drive.about(desk, c));
        }
        desk.free(0);
        check.due("opened before", ALL_ZERO, Drive.about(desk, 0));
    }

    private static void aboutGoalStays() {
        TunnelDesk desk = new TunnelDesk();
        desk.rule(true, 0, 0, 0, 80, 80);
        Drive.sendText(desk, desk.open(), "CONNECT ab:80\n\n");
        Drive.sendText(desk, desk.open(), "CONNECT abc:81\n\n");
        check.due("let through", "0 2 80", goalOf(desk, 0));
        check.due("not let through", "0 3 81", goalOf(desk, 1));
        desk.connected(0, true);
        check.due("RELAYING", "0 2 80", goalOf(desk, 0));
        Drive.ticks(desk, 30);
        check.due("ENDED", "6 0 2 80", desk.about(0, 0) + " " + goalOf(desk, 0));
        desk.forget();
        check.due("behind forget", "0 3 81", goalOf(desk, 1));
        desk.free(0);
        desk.open();
        check.due("until it is free", "0 0 0", goalOf(desk, 0));
    }

    private static void aboutNone() {
        TunnelDesk desk = Drive.inState(1);
        for (int c : new int[] {-1, 4, LEAST, MOST}) {
            check.refused(desk, "about " + c, NoSuchElementException.class, () -> desk.about(c, 0));
        }
        check.due("about 0", 1, desk.about(0, 0));
        check.due("about 3", 0, desk.about(3, 0));
    }

    private static void aboutNothing() {
        for (int c : new int[] {0, 3}) {
            TunnelDesk desk = Drive.inState(1);
            for (int what : new int[] {-1, 8, LEAST, MOST}) {
                check.refused(desk, c + ", what " + what, ARGUMENT, () -> desk.about(c, what));
            }
            check.due("what 0", c == 0 ? 1 : 0, desk.about(c, 0));
            check.due("what 7", 0, desk.about(c, 7));
        }
    }

    private static void letsPad() {
        TunnelDesk desk = new TunnelDesk();
        desk.rule(true, 1, 0x01010101, 32, 0, 65535);
        Drive.named(desk, true, "1.1.1", 0, 65535);
        check.due("an empty pad, this address", true, desk.lets(0x01010101, 1));
        check.due("an empty pad, another one", false, desk.lets(0x01010102, 1));
        desk.type('1');
        check.due("a pad of one character", false, desk.lets(0x01010101, 1));
        Drive.type(desk, ".1.1");
        check.due("the rule's name", true, desk.lets(0, 1));
        desk.type('.');
        check.due("a name of no rule", false, desk.lets(0x01010101, 1));
        desk.type('1');
        check.due("the rule's address", true, desk.lets(0, 1));
        Drive.type(desk, "00");
        check.due("1.1.1.100", false, desk.lets(0x01010101, 1));
        desk.type('x');
        check.due("1.1.1.100x", false, desk.lets(0x01010101, 1));
        desk.named(false, 0, 65535);
        check.due("an empty pad again", true, desk.lets(0x01010101, 1));
    }

    private static void letsPadStays() {
        TunnelDesk desk = Drive.lettingAll();
        check.due("an empty pad", true, desk.lets(0, 1));
        check.due("stays empty", 0, desk.count(3));
        Drive.type(desk, "abcdefghijklmno");
        check.due("a full pad", true, desk.lets(0, 1));
        check.due("stays full", 15, desk.count(3));
        desk.named(true, 0, 9);
        check.due("with its text", true, Drive.letsName(desk, "abcdefghijklmno", 1));
    }

    private static void letsPort() {
        TunnelDesk desk = Drive.lettingAll();
        check.due("port 0", true, desk.lets(0, 0));
        check.due("port 65535", true, desk.lets(0, 65535));
        for (int port : new int[] {-1, 65536, LEAST, MOST}) {
            check.refused(desk, "port " + port, ARGUMENT, () -> desk.lets(0, port));
        }
        TunnelDesk padded = Drive.lettingAll();
        padded.type('a');
        check.refused(padded, "port -1 of a name", ARGUMENT, () -> padded.lets(0, -1));
        check.refused(padded, "port 65536 of a name", ARGUMENT, () -> padded.lets(0, 65536));
        TunnelDesk none = new TunnelDesk();
        check.refused(none, "port -1 without rules", ARGUMENT, () -> none.lets(0, -1));
    }

    private static void fullParts() {
        TunnelDesk desk = Drive.inState(5);
        check.due("empty rings", 0f, desk.full());
        desk.send(0, 1);
        check.due("1 of 32", 1f / 32f, desk.full());
        desk.open();
        check.due("1 of 64", 1f / 64f, desk.full());
        desk.open();
        check.due("1 of 96", 1f / 96f, desk.full());
        desk.open();
        check.due("1 of 128", 1f / 128f, desk.full());
        desk.free(1);
        desk.free(2);
        desk.free(3);
        for (int c = 1; c < 4; c++) {
            Drive.relaying(desk);
        }
        for (int c = 0; c < 4; c++) {
            for (int i = 0; i < 16 && desk.send(c, 1); i++) {
                desk.give(c, 1);
            }
        }
        check.due("one place is left in connection 0", 127f / 128f, desk.full());
        desk.give(0, 1);
        check.due("all are full", 1f, desk.full());
        desk.finish(1, true);
        check.due("a finished side's bytes count", 1f, desk.full());
    }

    private static void fullFree() {
        TunnelDesk desk = new TunnelDesk();
        check.due("none was opened", 0f, desk.full());
        Drive.send(desk, desk.open(), 5, 1, 1);
        check.due("an ended one with two bytes", 2f / 32f, desk.full());
        desk.free(0);
        check.due("it is free again", 0f, desk.full());
    }

    private static void countEach() {
        TunnelDesk desk = new TunnelDesk();
        for (int i = 0; i < 8; i++) {
            check.due("rules", i, desk.count(0));
            desk.rule(true, 0, 0, 0, 0, 0);
        }
        for (int i = 0; i < 3; i++) {
            check.due("accounts", i, desk.count(1));
            Drive.account(desk, "a.b");
        }
        for (int i = 0; i < 4; i++) {
            check.due("connections", i, desk.count(2));
            desk.open();
        }
        for (int i = 0; i < 15; i++) {
            check.due("characters", i, desk.count(3));
            desk.type('a');
        }
        check.due("the most of each", "8 3 4 15",
                desk.count(0) + " " + desk.count(1) + " " + desk.count(2) + " " + desk.count(3));
        Drive.ticks(desk, 8);
        check.due("ended ones are not free", 4, desk.count(2));
        desk.free(2);
        check.due("one is free", 3, desk.count(2));
    }

    private static void countNothing() {
        TunnelDesk desk = new TunnelDesk();
        for (int what : new int[] {-1, 4, LEAST, MOST}) {
            check.refused(desk, "what " + what, ARGUMENT, () -> desk.count(what));
        }
        check.due("what 0", 0, desk.count(0));
        check.due("what 3", 0, desk.count(3));
    }
}
