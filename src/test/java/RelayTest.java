import java.util.Arrays;
import java.util.NoSuchElementException;
import java.util.function.Consumer;

/** Promises 7 (open), 8 (free), 9 (send), 10 (give), 11 (connected), 12 (up), 13 (down), 14 (finish), 16 (about). */
public final class RelayTest {
    private static final Check check = new Check();

    public static void main(String[] args) {
        open();
        free();
        noSuchConnection();
        noByte();
        orderOfExceptions();
        connected();
        connectingTakesBytes();
        rings();
        ringsGoRound();
        finishOutsideRelaying();
        finishInRelaying();
        lastByteEnds();
        ended();
        about();
        check.end("RelayTest");
    }

    private static void open() {
        TunnelDesk desk = new TunnelDesk();
        for (int c = 0; c < 4; c++) {
            check.due("open", c, desk.open());
            check.due("GREETING", "1 0 0 0 0 0 0 0", Drive.about(desk, c));
        }
        check.due("none is free", TunnelDesk.NONE, desk.open());
        desk.finish(1, true);
        check.due("an ended one is not free", TunnelDesk.NONE, desk.open());
        desk.free(3);
        desk.free(1);
        check.due("the lowest one", 1, desk.open());
        check.due("the next one", 3, desk.open());
        check.due("none is free again", TunnelDesk.NONE, desk.open());
    }

    private static void free() {
        TunnelDesk desk = Drive.lettingAll();
        Drive.account(desk, "ab.c1");
        int c = desk.open();
        Drive.ticks(desk, 3);
        check.due("free, GREETING", 1, desk.free(c));
        check.due("no ticks are left", "0 0 0 0 0 0 0 0", Drive.about(desk, c));
        desk.open();
        Drive.send(desk, c, 5, 1, 2);
        check.due("free, PASSWORD", 2, desk.free(c));
        check.due("nothing is left", "0 0 0 0 0 0 0 0", Drive.about(desk, c));
        desk.open();
        Drive.send(desk, c, 5, 1, 2);
        check.due("DOWN is that of the new one", "5 2 -1", Drive.down(desk, c));
        Drive.send(desk, c, Drive.LOGIN_AB_C1);
        check.due("free, REQUEST", 3, desk.free(c));
        desk.forget();
        desk.rule(true, 0, 0, 0, 0, 65535);
        Drive.connecting(desk);
        Drive.send(desk, c, 7);
        check.due("free, CONNECTING", 4, desk.free(c));
        Drive.relaying(desk);
        check.due("UP is that of the new one", "-1", Drive.up(desk, c));
        Drive.send(desk, c, 7);
        desk.give(c, 8);
        desk.finish(c, true);
        desk.finish(c, false);
        check.due("free, RELAYING", 5, desk.free(c));
        check.due("nothing is left", "0 0 0 0 0 0 0 0", Drive.about(desk, c));
        check.due("a new one", c, Drive.relaying(desk));
        check.due("its client has not finished", "-1", Drive.up(desk, c));
        check.due("its target has not finished", "-1", Drive.down(desk, c));
        desk.finish(c, true);
        desk.finish(c, false);
        check.due("free, ENDED", 6, desk.free(c));
        halfHandshakesAreLeftBehind();
    }

    private static void halfHandshakesAreLeftBehind() {
        String line = "CONNECT abc:80\n\n";
        for (int i = 1; i <= line.length(); i++) {
            TunnelDesk desk = Drive.lettingAll();
            Drive.sendText(desk, desk.open(), line.substring(0, i));
            desk.free(0);
            Drive.sendText(desk, desk.open(), "CONNECT 0123456789abcde:65535\n\n");
            check.due("a line behind half a line", "4 0 0 0 1 0 15 65535", Drive.about(desk, 0));
            desk.free(0);
            Drive.sendText(desk, desk.open(), "CONNECT a:\n");
            check.due("a line without digits", 6, desk.free(0));
        }
        int[] request = {5, 1, 0, 5, 1, 0, 3, 3, 'x', 'y', 'z', 1, 1};
        for (int i = 1; i <= request.length; i++) {
            TunnelDesk desk = Drive.lettingAll();
            Drive.send(desk, desk.open(), Arrays.copyOf(request, i));
            desk.free(0);
            Drive.send(desk, desk.open(), 5, 1, 0, 5, 1, 0, 1, 1, 2, 3, 4, 0, 9);
            check.due("a request behind half a one", "4 0 2 0 0 " + 0x01020304 + " 0 9", Drive.about(desk, 0));
            desk.free(0);
            Drive.send(desk, desk.open(), 5, 1, 2);
            check.due("methods of an earlier one don't count", 6, desk.free(0));
        }
        int[] login = {5, 1, 2, 1, 2, 'a', 'b', 2, 'c', '1'};
        for (int i = 1; i <= login.length; i++) {
            TunnelDesk desk = new TunnelDesk();
            Drive.account(desk, "ab.c1");
            Drive.send(desk, desk.open(), Arrays.copyOf(login, i));
            desk.free(0);
            Drive.send(desk, desk.open(), login);
            check.due("a login behind half a one", 3, desk.free(0));
            Drive.send(desk, desk.open(), 5, 1, 0);
            check.due("methods of an earlier one don't count", 6, desk.free(0));
        }
    }

    private static void noSuchConnection() {
        for (int c : new int[] {-1, 1, 3, 4, Integer.MIN_VALUE, Integer.MAX_VALUE}) {
            noConnectionFor("free " + c, desk -> desk.free(c));
            noConnectionFor("send " + c, desk -> desk.send(c, 1));
            noConnectionFor("send no byte " + c, desk -> desk.send(c, 256));
            noConnectionFor("give " + c, desk -> desk.give(c, 1));
            noConnectionFor("give no byte " + c, desk -> desk.give(c, -1));
            noConnectionFor("connected " + c, desk -> desk.connected(c, true));
            noConnectionFor("up " + c, desk -> desk.up(c));
            noConnectionFor("down " + c, desk -> desk.down(c));
            noConnectionFor("finish " + c, desk -> desk.finish(c, true));
            noConnectionFor("finish " + c, desk -> desk.finish(c, false));
        }
        TunnelDesk desk = new TunnelDesk();
        desk.open();
        desk.free(0);
        check.refused(desk, "free twice", NoSuchElementException.class, () -> desk.free(0));
    }

    private static void noConnectionFor(String what, Consumer<TunnelDesk> call) {
        TunnelDesk desk = new TunnelDesk();
        desk.open();
        check.refused(desk, what, NoSuchElementException.class, () -> call.accept(desk));
    }

    private static void noByte() {
        for (int b : new int[] {-1, 256, Integer.MIN_VALUE, Integer.MAX_VALUE}) {
            TunnelDesk desk = Drive.lettingAll();
            int c = Drive.relaying(desk);
            check.refused(desk, "send " + b, IllegalArgumentException.class, () -> desk.send(c, b));
            check.refused(desk, "give " + b, IllegalArgumentException.class, () -> desk.give(c, b));
        }
        TunnelDesk desk = Drive.lettingAll();
        int c = Drive.relaying(desk);
        for (int b : new int[] {0, 255}) {
            check.due("send " + b, true, desk.send(c, b));
            check.due("give " + b, true, desk.give(c, b));
        }
        check.due("up", "0 255 -1", Drive.up(desk, c));
        check.due("down", "0 255 -1", Drive.down(desk, c));
    }

    private static void orderOfExceptions() {
        TunnelDesk desk = Drive.lettingAll();
        int c = Drive.ended(desk);
        check.refused(desk, "no byte, and ended", IllegalArgumentException.class, () -> desk.send(c, 256));
        check.refused(desk, "a byte, and ended", IllegalStateException.class, () -> desk.send(c, 255));
        check.refused(desk, "no byte from the target", IllegalArgumentException.class, () -> desk.give(c, -1));
        check.refused(desk, "a byte from the target", IllegalStateException.class, () -> desk.give(c, 0));
    }

    private static void connected() {
        TunnelDesk desk = Drive.lettingAll();
        int c = desk.open();
        check.refused(desk, "connected, GREETING", IllegalStateException.class, () -> desk.connected(c, true));
        Drive.send(desk, c, 5, 1, 0);
        check.refused(desk, "connected, REQUEST", IllegalStateException.class, () -> desk.connected(c, false));
        Drive.down(desk, c);
        Drive.sendName(desk, c, 1, "a", 258);
        desk.connected(c, true);
        check.due("it stands", "5 0 10 0 0 0 1 258", Drive.about(desk, c));
        check.refused(desk, "connected, RELAYING", IllegalStateException.class, () -> desk.connected(c, false));
        check.due("reply 0", "5 0 0 1 0 0 0 0 0 0 -1", Drive.down(desk, c));
        int d = Drive.greeted(desk);
        Drive.sendName(desk, d, 1, "a", 258);
        Drive.send(desk, d, 1, 2, 3);
        desk.connected(d, false);
        check.due("it does not stand, and UP is empty", "6 0 10 0 0 0 1 258", Drive.about(desk, d));
        check.due("nothing to take", "-2", Drive.up(desk, d));
        check.due("reply 5", "5 5 0 1 0 0 0 0 0 0 -2", Drive.down(desk, d));
        check.refused(desk, "connected, ENDED", IllegalStateException.class, () -> desk.connected(d, true));
    }

    private static void connectingTakesBytes() {
        TunnelDesk desk = Drive.lettingAll();
        int c = Drive.connecting(desk);
        for (int i = 0; i < 16; i++) {
            check.due("sent in CONNECTING", true, desk.send(c, 100 + i));
        }
        check.due("UP is full", false, desk.send(c, 1));
        check.refused(desk, "give in CONNECTING", IllegalStateException.class, () -> desk.give(c, 1));
        check.due("taken in CONNECTING", 100, desk.up(c));
        check.due("nothing in DOWN", TunnelDesk.NONE, desk.down(c));
        desk.connected(c, true);
        check.due("UP stays", 15, desk.about(c, 1));
        check.due("its first byte", 101, desk.up(c));
    }

    private static void rings() {
        TunnelDesk desk = Drive.lettingAll();
        int c = Drive.relaying(desk);
        int d = Drive.relaying(desk);
        check.due("an empty UP", TunnelDesk.NONE, desk.up(c));
        check.due("an empty DOWN", TunnelDesk.NONE, desk.down(c));
        for (int i = 0; i < 16; i++) {
            check.due("sent", true, desk.send(c, i));
            check.due("given", true, desk.give(c, 200 + i));
        }
        check.due("UP is full", false, desk.send(c, 77));
        check.due("DOWN is full", false, desk.give(c, 78));
        check.due("how many are there", "5 16 16 0 1 0 1 1", Drive.about(desk, c));
        check.due("the other one has its own", "5 0 0 0 1 0 1 1", Drive.about(desk, d));
        check.due("up", "0 1 2 3 4 5 6 7 8 9 10 11 12 13 14 15 -1", Drive.up(desk, c));
        check.due("down", 200, desk.down(c));
        check.due("there is room again", true, desk.give(c, 78));
        check.due("for one byte", false, desk.give(c, 79));
    }

    private static void ringsGoRound() {
        TunnelDesk desk = Drive.lettingAll();
        int c = Drive.relaying(desk);
        for (int i = 0; i < 40; i++) {
            desk.send(c, i);
            desk.give(c, 255 - i);
            if (i >= 10) {
                check.due("up, ten behind", i - 10, desk.up(c));
                check.due("down, ten behind", 255 - i + 10, desk.down(c));
            }
        }
    }

    private static void finishOutsideRelaying() {
        TunnelDesk desk = Drive.lettingAll();
        Drive.account(desk, "ab.c1");
        int c = desk.open();
        targetCannotFinish(desk, c, "GREETING");
        Drive.send(desk, c, 5, 1, 2);
        targetCannotFinish(desk, c, "PASSWORD");
        desk.finish(c, true);
        check.due("the client, PASSWORD", "6 0 2 0 0 0 0 0", Drive.about(desk, c));
        check.due("DOWN can be taken", "5 2 -2", Drive.down(desk, c));
        check.refused(desk, "the client, ENDED", IllegalStateException.class, () -> desk.finish(c, true));
        targetCannotFinish(desk, c, "ENDED");
        clientFinishesBeforeRelaying();
    }

    private static void targetCannotFinish(TunnelDesk desk, int c, String state) {
        check.refused(desk, "the target, " + state, IllegalStateException.class, () -> desk.finish(c, false));
    }

    private static void clientFinishesBeforeRelaying() {
        TunnelDesk desk = Drive.lettingAll();
        int greeting = desk.open();
        desk.finish(greeting, true);
        check.due("the client, GREETING", 6, desk.about(greeting, 0));
        int request = Drive.greeted(desk);
        targetCannotFinish(desk, request, "REQUEST");
        desk.finish(request, true);
        check.due("the client, REQUEST", 6, desk.about(request, 0));
        int connecting = Drive.connecting(desk);
        Drive.send(desk, connecting, 9);
        targetCannotFinish(desk, connecting, "CONNECTING");
        desk.finish(connecting, true);
        check.due("the client, CONNECTING", "6 0 0 0 1 0 1 1", Drive.about(desk, connecting));
        check.due("UP is empty", TunnelDesk.OVER, desk.up(connecting));
    }

    private static void finishInRelaying() {
        TunnelDesk desk = Drive.lettingAll();
        int c = Drive.relaying(desk);
        Drive.send(desk, c, 1);
        desk.finish(c, true);
        check.due("RELAYING still", 5, desk.about(c, 0));
        check.refused(desk, "the client again", IllegalStateException.class, () -> desk.finish(c, true));
        check.refused(desk, "the client sends", IllegalStateException.class, () -> desk.send(c, 1));
        check.due("the target gives", true, desk.give(c, 2));
        check.due("up", "1 -2", Drive.up(desk, c));
        check.due("down", "2 -1", Drive.down(desk, c));
        desk.finish(c, false);
        check.due("both, and empty rings", 6, desk.about(c, 0));
        int d = Drive.relaying(desk);
        desk.give(d, 3);
        desk.finish(d, false);
        check.refused(desk, "the target again", IllegalStateException.class, () -> desk.finish(d, false));
        check.refused(desk, "the target gives", IllegalStateException.class, () -> desk.give(d, 1));
        check.due("the client sends", true, desk.send(d, 4));
        check.due("down", "3 -2", Drive.down(desk, d));
        check.due("up", "4 -1", Drive.up(desk, d));
        desk.finish(d, true);
        check.due("both, and empty rings", 6, desk.about(d, 0));
    }

    private static void lastByteEnds() {
        TunnelDesk desk = Drive.lettingAll();
        int c = Drive.relaying(desk);
        Drive.send(desk, c, 1, 2);
        desk.give(c, 3);
        desk.finish(c, true);
        desk.finish(c, false);
        check.due("both have finished", 5, desk.about(c, 0));
        check.due("down", "3 -2", Drive.down(desk, c));
        check.due("UP is not empty", 5, desk.about(c, 0));
        check.due("up", 1, desk.up(c));
        check.due("UP is not empty yet", 5, desk.about(c, 0));
        check.due("up", 2, desk.up(c));
        check.due("UP is empty", 6, desk.about(c, 0));
        check.due("over", TunnelDesk.OVER, desk.up(c));
        int d = Drive.relaying(desk);
        Drive.send(desk, d, 1);
        desk.give(d, 3);
        desk.finish(d, false);
        desk.finish(d, true);
        check.due("up", "1 -2", Drive.up(desk, d));
        check.due("DOWN is not empty", 5, desk.about(d, 0));
        check.due("down", 3, desk.down(d));
        check.due("DOWN is empty", 6, desk.about(d, 0));
    }

    private static void ended() {
        TunnelDesk desk = Drive.lettingAll();
        int c = Drive.relaying(desk);
        Drive.send(desk, c, 1, 2);
        desk.give(c, 3);
        desk.give(c, 4);
        Drive.ticks(desk, 30);
        check.due("UP is empty, DOWN is not", "6 0 2 0 1 0 1 1", Drive.about(desk, c));
        check.due("up", TunnelDesk.OVER, desk.up(c));
        check.due("down", "3 4 -2", Drive.down(desk, c));
        check.due("down again", TunnelDesk.OVER, desk.down(c));
    }

    private static void about() {
        for (int what : new int[] {-1, 8, Integer.MIN_VALUE, Integer.MAX_VALUE}) {
            TunnelDesk desk = new TunnelDesk();
            desk.open();
            check.refused(desk, "about " + what, IllegalArgumentException.class, () -> desk.about(0, what));
            check.refused(desk, "about a free one", IllegalArgumentException.class, () -> desk.about(3, what));
            check.refused(desk, "about none", NoSuchElementException.class, () -> desk.about(4, what));
            int none = what == 8 ? 4 : what;
            check.refused(desk, "about " + none, NoSuchElementException.class, () -> desk.about(none, 0));
        }
        TunnelDesk desk = Drive.lettingAll();
        int c = Drive.relaying(desk);
        Drive.send(desk, c, 1, 2);
        desk.give(c, 3);
        Drive.ticks(desk, 4);
        check.due("about", "5 2 1 4 1 0 1 1", Drive.about(desk, c));
    }
}
