/** Promise 15 (tick), and the ticks of promise 16 (about). */
public final class TicksTest {
    private static final Check check = new Check();

    public static void main(String[] args) {
        limits();
        eachStateCountsAnew();
        bytesCountAnew();
        whatDoesNotCountAnew();
        severalAtOnce();
        check.end("TicksTest");
    }

    private static TunnelDesk withAccount() {
        TunnelDesk desk = Drive.lettingAll();
        Drive.account(desk, "ab.c1");
        return desk;
    }

    private static void limits() {
        TunnelDesk desk = withAccount();
        desk.open();
        endsAt(desk, 8, "GREETING");
        desk.open();
        Drive.send(desk, 0, 'C');
        endsAt(desk, 8, "GREETING, text");
        desk.open();
        Drive.send(desk, 0, 5, 1, 2);
        endsAt(desk, 8, "PASSWORD");
        desk.open();
        Drive.send(desk, 0, 5, 1, 2);
        Drive.send(desk, 0, Drive.LOGIN_AB_C1);
        endsAt(desk, 8, "REQUEST");
        TunnelDesk other = Drive.lettingAll();
        Drive.connecting(other);
        endsAt(other, 12, "CONNECTING");
        Drive.relaying(other);
        endsAt(other, 30, "RELAYING");
    }

    private static void endsAt(TunnelDesk desk, int last, String state) {
        int had = desk.about(0, 2);
        for (int i = 1; i < last; i++) {
            check.due(state + ", tick " + i, 0, desk.tick());
            check.due(state + ", ticks", i, desk.about(0, 3));
        }
        check.due(state + " still", false, desk.about(0, 0) == 6);
        check.due(state + ", the last tick", 1, desk.tick());
        check.due(state + " is ended", 6, desk.about(0, 0));
        check.due(state + ", nothing goes down", had, desk.about(0, 2));
        check.due(state + ", no ticks", 0, desk.about(0, 3));
        check.due(state + ", a tick behind it", 0, Drive.ticks(desk, 31));
        check.due(state + ", not counted", 0, desk.about(0, 3));
        desk.free(0);
        check.due("a free one", 0, desk.tick());
        check.due("a free one is not counted", 0, desk.about(0, 3));
    }

    private static void eachStateCountsAnew() {
        TunnelDesk desk = Drive.lettingAll();
        desk.open();
        Drive.ticks(desk, 7);
        Drive.sendText(desk, 0, "CONNECT a:1\n\n");
        check.due("CONNECTING", 0, desk.about(0, 3));
        Drive.ticks(desk, 11);
        desk.connected(0, true);
        check.due("RELAYING", 0, desk.about(0, 3));
        Drive.ticks(desk, 29);
        desk.finish(0, true);
        desk.finish(0, false);
        check.due("in DOWN is the status", 5, desk.about(0, 0));
        check.due("finishing does not count anew", 29, desk.about(0, 3));
        check.due("so it is ended", 1, desk.tick());
        desk.free(0);
        desk.open();
        check.due("opened again", 0, desk.about(0, 3));
        Drive.ticks(desk, 5);
        desk.finish(0, true);
        check.due("ENDED", 0, desk.about(0, 3));
    }

    private static void bytesCountAnew() {
        TunnelDesk desk = Drive.lettingAll();
        desk.open();
        for (int b : new int[] {5, 2, 0, 1}) {
            check.due("none is ended", 0, Drive.ticks(desk, 7));
            Drive.send(desk, 0, b);
            check.due("a byte of the handshake", 0, desk.about(0, 3));
        }
        Drive.ticks(desk, 7);
        desk.down(0);
        check.due("down, in the handshake", 0, desk.about(0, 3));
        desk.free(0);
        Drive.connecting(desk);
        Drive.ticks(desk, 11);
        desk.send(0, 1);
        check.due("send, in CONNECTING", 0, desk.about(0, 3));
        Drive.ticks(desk, 11);
        desk.up(0);
        check.due("up, in CONNECTING", 0, desk.about(0, 3));
        desk.connected(0, true);
        Drive.ticks(desk, 29);
        desk.give(0, 1);
        check.due("give", 0, desk.about(0, 3));
        Drive.ticks(desk, 29);
        desk.down(0);
        check.due("down", 0, desk.about(0, 3));
        Drive.ticks(desk, 29);
        desk.send(0, 1);
        check.due("send", 0, desk.about(0, 3));
        Drive.ticks(desk, 29);
        desk.up(0);
        check.due("up", 0, desk.about(0, 3));
        check.due("RELAYING all the time", 5, desk.about(0, 0));
    }

    private static void whatDoesNotCountAnew() {
        TunnelDesk desk = Drive.lettingAll();
        int c = Drive.relaying(desk);
        Drive.ticks(desk, 3);
        desk.up(c);
        desk.down(c);
        check.due("nothing was taken", 3, desk.about(c, 3));
        for (int i = 0; i < 16; i++) {
            desk.send(c, i);
            desk.give(c, i);
        }
        Drive.ticks(desk, 5);
        desk.send(c, 1);
        desk.give(c, 1);
        check.due("nothing was taken in", 5, desk.about(c, 3));
        check.refused(desk, "no byte", IllegalArgumentException.class, () -> desk.send(c, 256));
        desk.finish(c, false);
        check.due("a side finished", 5, desk.about(c, 3));
        desk.about(c, 0);
        desk.open();
        Drive.send(desk, 1, 5);
        check.due("another one's byte", 5, desk.about(c, 3));
    }

    private static void severalAtOnce() {
        TunnelDesk desk = Drive.lettingAll();
        desk.open();
        desk.open();
        Drive.connecting(desk);
        Drive.relaying(desk);
        check.due("seven", 0, Drive.ticks(desk, 7));
        Drive.send(desk, 1, 5);
        check.due("the first one", 1, desk.tick());
        check.due("none", 0, Drive.ticks(desk, 3));
        Drive.send(desk, 1, 1);
        check.due("the third one", 1, desk.tick());
        check.due("the second one", 1, Drive.ticks(desk, 7));
        check.due("the last one", 1, Drive.ticks(desk, 11));
        check.due("none is left", 0, Drive.ticks(desk, 31));
        for (int c = 0; c < 4; c++) {
            desk.free(c);
            desk.open();
        }
        Drive.ticks(desk, 7);
        check.due("four at once", 4, desk.tick());
    }
}
