/** The bounds that "Terms" and promise 15 name for ticks: a test for each sentence, on both sides of its bound. */
public final class BoundsOfTicksTest {
    private static final Check check = new Check();

    public static void main(String[] args) {
        check.sentence("TICKS are counted, for each connection in the states 1 to 5", BoundsOfTicksTest::states1To5);
        check.sentence("from when it was opened", BoundsOfTicksTest::fromOpened);
        check.sentence("or the state last became another one", BoundsOfTicksTest::fromAnotherState);
        check.sentence("or a byte was taken into it", BoundsOfTicksTest::fromByteIn);
        check.sentence("or out of it", BoundsOfTicksTest::fromByteOut);
        check.sentence("the latest of these", BoundsOfTicksTest::theLatest);
        check.sentence("at the 8th in the handshake", BoundsOfTicksTest::handshake);
        check.sentence("the 12th in CONNECTING", BoundsOfTicksTest::connecting);
        check.sentence("the 30th in RELAYING, it is ended", BoundsOfTicksTest::relaying);
        check.sentence("A tick: how many connections were ended by it.", BoundsOfTicksTest::howMany);
        check.end("BoundsOfTicksTest");
    }

    private static void states1To5() {
        for (int state = 0; state <= 6; state++) {
            TunnelDesk desk = Drive.inState(state);
            check.due("no tick in state " + state, 0, desk.about(0, 3));
            desk.tick();
            check.due("a tick in state " + state, state == 0 || state == 6 ? 0 : 1, desk.about(0, 3));
            check.due("the state stays", state, desk.about(0, 0));
        }
        TunnelDesk desk = Drive.inState(6);
        check.due("ENDED, never again", 0, Drive.ticks(desk, 100));
        TunnelDesk free = new TunnelDesk();
        check.due("FREE, never", 0, Drive.ticks(free, 100));
        free.open();
        check.due("what was ticked before does not count", 0, Drive.ticks(free, 7));
    }

    private static void fromOpened() {
        TunnelDesk desk = new TunnelDesk();
        desk.open();
        Drive.ticks(desk, 7);
        desk.free(0);
        desk.open();
        check.due("opened again", 0, desk.about(0, 3));
        check.due("seven more", 0, Drive.ticks(desk, 7));
        check.due("the 8th", 1, desk.tick());
    }

    private static void fromAnotherState() {
        TunnelDesk desk = Drive.inState(4);
        Drive.ticks(desk, 11);
        desk.connected(0, true);
        check.due("RELAYING", "5 0 4 0 1 0 1 1", Drive.about(desk, 0));
        check.due("29 more", 0, Drive.ticks(desk, 29));
        check.due("the 30th", 1, desk.tick());
        check.due("ENDED", 0, desk.about(0, 3));
        // The state does not become another one by a side that finishes, while a ring is not empty.
        TunnelDesk other = Drive.inState(5);
        other.send(0, 1);
        Drive.ticks(other, 5);
        other.finish(0, false);
        check.due("the target finishes", 5, other.about(0, 3));
        other.finish(0, true);
        check.due("the client finishes", 5, other.about(0, 3));
    }

    private static void fromByteIn() {
        for (int state = 1; state <= 5; state++) {
            TunnelDesk desk = Drive.inState(state);
            Drive.ticks(desk, 7);
            check.due("taken in state " + state, true, desk.send(0, state == 2 ? 1 : 5));
            check.due("state " + state + ", from the client", state + " 0", desk.about(0, 0) + " " + desk.about(0, 3));
        }
        TunnelDesk desk = Drive.inState(5);
        Drive.ticks(desk, 29);
        desk.give(0, 1);
        check.due("from the target", 0, desk.about(0, 3));
        for (int i = 0; i < 16; i++) {
            desk.give(0, i);
            desk.send(0, i);
        }
        Drive.ticks(desk, 3);
        check.due("refused, DOWN is full", false, desk.give(0, 1));
        check.due("refused, UP is full", false, desk.send(0, 1));
        check.due("none was taken in", 3, desk.about(0, 3));
    }

    private static void fromByteOut() {
        TunnelDesk handshake = new TunnelDesk();
        handshake.open();
        Drive.send(handshake, 0, 5, 1, 0);
        Drive.ticks(handshake, 7);
        check.due("down, in the handshake", 5, handshake.down(0));
        check.due("counted anew", 0, handshake.about(0, 3));
        TunnelDesk desk = Drive.inState(4);
        desk.send(0, 1);
        Drive.ticks(desk, 11);
        check.due("up, in CONNECTING", 1, desk.up(0));
        check.due("counted anew", 0, desk.about(0, 3));
        Drive.ticks(desk, 11);
        check.due("up of an empty ring", TunnelDesk.NONE, desk.up(0));
        check.due("down of an empty ring", TunnelDesk.NONE, desk.down(0));
        check.due("none was taken out", 11, desk.about(0, 3));
        check.due("so it is ended", 1, desk.tick());
    }

    private static void theLatest() {
        TunnelDesk desk = Drive.inState(5);
        Drive.ticks(desk, 2);
        desk.send(0, 1);
        Drive.ticks(desk, 3);
        desk.up(0);
        Drive.ticks(desk, 4);
        check.due("behind the latest", 4, desk.about(0, 3));
        desk.open();
        Drive.send(desk, 1, 5);
        check.due("another one's byte", 4, desk.about(0, 3));
        Drive.ticks(desk, 7);
        check.due("each has its own", "11 7", desk.about(0, 3) + " " + desk.about(1, 3));
        check.due("the other one is ended first", 1, desk.tick());
        check.due("this one is not", "5 12", desk.about(0, 0) + " " + desk.about(0, 3));
    }

    private static void handshake() {
        for (int state = 1; state <= 3; state++) {
            endsAt(Drive.inState(state), 8, state);
        }
        TunnelDesk text = new TunnelDesk();
        text.open();
        Drive.send(text, 0, 'C');
        endsAt(text, 8, 1);
    }

    private static void connecting() {
        endsAt(Drive.inState(4), 12, 4);
    }

    private static void relaying() {
        endsAt(Drive.inState(5), 30, 5);
        TunnelDesk finished = Drive.inState(5);
        finished.give(0, 9);
        finished.finish(0, true);
        finished.finish(0, false);
        endsAt(finished, 30, 5);
        check.due("DOWN can be taken", "9 -2", Drive.down(finished, 0));
    }

    private static void endsAt(TunnelDesk desk, int last, int state) {
        for (int i = 1; i < last; i++) {
            check.due("tick " + i + " in state " + state, 0, desk.tick());
        }
        check.due("one before the last", state + " " + (last - 1), desk.about(0, 0) + " " + desk.about(0, 3));
        check.due("tick " + last + " in state " + state, 1, desk.tick());
        check.due("ENDED", "6 0", desk.about(0, 0) + " " + desk.about(0, 3));
    }

    private static void howMany() {
        for (int open = 0; open <= 4; open++) {
            TunnelDesk desk = new TunnelDesk();
            for (int i = 0; i < open; i++) {
                desk.open();
            }
            check.due("the first seven, with " + open, 0, Drive.ticks(desk, 7));
            check.due("the 8th, with " + open, open, desk.tick());
            check.due("the 9th, with " + open, 0, desk.tick());
        }
        TunnelDesk desk = Drive.lettingAll();
        Drive.connecting(desk);
        Drive.ticks(desk, 4);
        desk.open();
        desk.open();
        Drive.ticks(desk, 7);
        check.due("12 of one, 8 of two", 3, desk.tick());
    }
}
