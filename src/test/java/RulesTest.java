/** Promises 2 (type), 3 (rule), 4 (named), 5 (account), 6 (forget) and 17 (lets). */
public final class RulesTest {
    private static final Check check = new Check();
    private static final int TEN = 10 << 24;

    public static void main(String[] args) {
        type();
        ruleRefusals();
        kinds();
        highestBits();
        firstRuleDecides();
        named();
        nameOrAddress();
        account();
        accountsAreWhatIsAskedFor();
        forget();
        lets();
        check.end("RulesTest");
    }

    private static void type() {
        TunnelDesk desk = new TunnelDesk();
        for (char c : "azAZ`{09/:.-, _\n\u0000\u00e4\u0161\uff41".toCharArray()) {
            desk.forget();
            boolean may = c >= 'a' && c <= 'z' || c >= '0' && c <= '9' || c == '.' || c == '-';
            check.due("type " + (int) c, may, desk.type(c));
            check.due("the pad behind " + (int) c, may ? 1 : 0, desk.count(3));
        }
        desk.forget();
        for (int i = 0; i < 15; i++) {
            check.due("type, with " + i + " there", true, desk.type('a'));
        }
        check.due("the 16th", false, desk.type('a'));
        check.due("a full pad", 15, desk.count(3));
    }

    private static void ruleRefusals() {
        int[][] wrong = {{-1, 0, 0, 1}, {2, 0, 0, 1}, {3, 0, 0, 1}, {1, -1, 0, 1}, {1, 33, 0, 1}, {0, 0, -1, 1},
            {0, 0, 2, 1}, {0, 0, 0, 65536}, {0, 0, 65536, 65536}, {1, 8, 0, Integer.MAX_VALUE},
            {1, Integer.MIN_VALUE, 0, 1}, {0, 0, Integer.MIN_VALUE, 1}};
        for (int[] w : wrong) {
            for (int rules : new int[] {0, 8}) {
                TunnelDesk desk = withRules(rules);
                check.refused(desk, "rule " + w[0] + " " + w[1] + " " + w[2] + " " + w[3],
                        IllegalArgumentException.class, () -> desk.rule(true, w[0], 0, w[1], w[2], w[3]));
            }
        }
        TunnelDesk desk = new TunnelDesk();
        check.due("kind 0 has no bits", 1, desk.rule(false, 0, 0, -7, 0, 65535));
        check.due("kind 0 with 33 bits", 2, desk.rule(false, 0, 0, 33, 65535, 65535));
        check.due("0 bits", 3, desk.rule(false, 1, 0, 0, 0, 0));
        check.due("32 bits", 4, desk.rule(false, 1, 0, 32, 5, 5));
        for (int i = 5; i <= 8; i++) {
            check.due("rule " + i, i, desk.rule(false, 0, 0, 0, 0, 1));
        }
        check.refused(desk, "a 9th rule", IllegalStateException.class, () -> desk.rule(true, 0, 0, 0, 0, 1));
        check.refused(desk, "a 9th, and an empty pad", IllegalArgumentException.class, () -> desk.named(true, 0, 1));
        Drive.type(desk, "a");
        check.refused(desk, "a 9th rule with a name", IllegalStateException.class, () -> desk.named(true, 0, 1));
        check.due("the pad stays", 1, desk.count(3));
    }

    private static TunnelDesk withRules(int rules) {
        TunnelDesk desk = new TunnelDesk();
        for (int i = 0; i < rules; i++) {
            desk.rule(false, 0, 0, 0, 0, 1);
        }
        return desk;
    }

    private static void kinds() {
        TunnelDesk desk = new TunnelDesk();
        desk.rule(true, 0, 77, 32, 10, 20);
        check.due("kind 0 is for any address", true, desk.lets(-5, 10));
        check.due("up to the high port", true, desk.lets(1, 20));
        check.due("below the low port", false, desk.lets(1, 9));
        check.due("above the high port", false, desk.lets(1, 21));
        check.due("kind 0 is for any name", true, Drive.letsName(desk, "a", 15));
        desk.forget();
        desk.rule(true, 1, 0, 0, 0, 65535);
        check.due("kind 1 is for no name", false, Drive.letsName(desk, "a", 15));
        desk.forget();
        Drive.named(desk, true, "a", 0, 65535);
        check.due("kind 2 is for no address", false, desk.lets(0, 15));
    }

    private static void highestBits() {
        for (int bits = 0; bits <= 32; bits++) {
            TunnelDesk desk = new TunnelDesk();
            desk.rule(true, 1, TEN | 0x10305, bits, 0, 65535);
            for (int bit = 0; bit < 32; bit++) {
                int other = (TEN | 0x10305) ^ (1 << (31 - bit));
                check.due(bits + " bits, bit " + bit + " differs", bit >= bits, desk.lets(other, 1));
            }
            check.due(bits + " bits, the same", true, desk.lets(TEN | 0x10305, 1));
        }
    }

    private static void firstRuleDecides() {
        TunnelDesk desk = new TunnelDesk();
        desk.rule(false, 1, TEN | 1, 32, 0, 80);
        desk.rule(true, 1, TEN, 8, 0, 90);
        desk.rule(false, 0, 0, 0, 0, 65535);
        check.due("the first one refuses", false, desk.lets(TEN | 1, 80));
        check.due("its ports are others", true, desk.lets(TEN | 1, 81));
        check.due("its address is another", true, desk.lets(TEN | 2, 80));
        check.due("the third one refuses", false, desk.lets(TEN | 2, 91));
        check.due("none lets an other net", false, desk.lets(1, 80));
    }

    private static void named() {
        TunnelDesk desk = new TunnelDesk();
        check.refused(desk, "an empty pad", IllegalArgumentException.class, () -> desk.named(true, 0, 1));
        Drive.type(desk, "a.b");
        int[][] wrong = {{-1, 1}, {2, 1}, {0, 65536}};
        for (int[] w : wrong) {
            check.refused(desk, "named " + w[0] + " " + w[1], IllegalArgumentException.class,
                    () -> desk.named(true, w[0], w[1]));
        }
        check.due("named", 1, desk.named(true, 5, 7));
        check.due("the pad is empty", 0, desk.count(3));
        String[] names = {"a.b", "x.a.b", ".a.b", "xa.b", "b", "a.b.c", "a-b", "x.y.a.b", "a.bb"};
        boolean[] due = {true, true, true, false, false, false, false, true, false};
        for (int i = 0; i < names.length; i++) {
            desk.forget();
            Drive.named(desk, true, "a.b", 5, 7);
            check.due("the name " + names[i], due[i], Drive.letsName(desk, names[i], 5));
            check.due("port 4", false, desk.lets(0, 4));
            check.due("port 8", false, desk.lets(0, 8));
        }
        desk.forget();
        Drive.named(desk, false, "a.b", 0, 65535);
        desk.rule(true, 0, 0, 0, 0, 65535);
        check.due("a name's rule that refuses", false, Drive.letsName(desk, "q.a.b", 5));
        desk.forget();
        Drive.named(desk, true, "aaaaaaaaaaaaaaa", 0, 65535);
        check.due("a rule's name of 15", true, Drive.letsName(desk, "aaaaaaaaaaaaaaa", 5));
        desk.forget();
        Drive.named(desk, true, "b", 0, 65535);
        check.due("a place that had a longer name", true, Drive.letsName(desk, "b", 5));
    }

    private static void nameOrAddress() {
        String[] addresses = {"1.2.3.4", "255.255.255.255", "0.0.0.0", "010.000.1.09", "128.0.0.1"};
        int[] due = {0x01020304, -1, 0, TEN | 0x109, 0x80000001};
        for (int i = 0; i < addresses.length; i++) {
            isOneOf(addresses[i], due[i], 32, true);
        }
        String[] names = {"1.2.3", "1.2.3.4.5", "256.1.1.1", "1.1.1.256", "1.1.1.1.", ".1.1.1.1", "1..1.1", "1.1.1.",
            "0001.1.1.1", "1.1.1.0001", "1.1.1.a", "1-1.1.1", "1234", "...", "1.1.1.999", "1.1.1.-1"};
        for (String name : names) {
            isOneOf(name, 0, 0, false);
        }
        TunnelDesk desk = new TunnelDesk();
        Drive.named(desk, true, "1.2.3.4", 0, 65535);
        check.due("a name that ends by the rule's", true, Drive.letsName(desk, "x.1.2.3.4", 1));
    }

    private static void isOneOf(String text, int address, int bits, boolean isAddress) {
        TunnelDesk desk = new TunnelDesk();
        desk.rule(true, 1, address, bits, 0, 65535);
        check.due(text + " as an address", isAddress, Drive.letsName(desk, text, 1));
        desk.forget();
        Drive.named(desk, true, text, 0, 65535);
        check.due(text + " as a name", !isAddress, Drive.letsName(desk, text, 1));
    }

    private static void account() {
        String[] wrong = {"", "ab", ".ab", "ab.", ".", "abcdefg.a", "a.abcdefg", "..a", "a-b", "a.bcdef.g",
            "abcdefghijklmno", "abcdefghijklmn."};
        for (String text : wrong) {
            TunnelDesk desk = new TunnelDesk();
            Drive.type(desk, text);
            check.refused(desk, "account of " + text, IllegalArgumentException.class, desk::account);
            check.due("the pad stays", text.length(), desk.count(3));
        }
        TunnelDesk desk = new TunnelDesk();
        check.due("a first account", 1, Drive.account(desk, "abcdef.123456"));
        check.due("the pad is empty", 0, desk.count(3));
        check.due("a second account", 2, Drive.account(desk, "a.b.c"));
        check.due("the third one, as the first", 3, Drive.account(desk, "abcdef.123456"));
        check.refused(desk, "an empty pad comes first", IllegalArgumentException.class, desk::account);
        Drive.type(desk, "d.e");
        check.refused(desk, "a fourth account", IllegalStateException.class, desk::account);
        check.due("the pad stays", 3, desk.count(3));
        Drive.type(desk, "fghijkl");
        check.refused(desk, "a wrong text comes first", IllegalArgumentException.class, desk::account);
    }

    private static void accountsAreWhatIsAskedFor() {
        TunnelDesk desk = new TunnelDesk();
        Drive.account(desk, "abcdef.123456");
        Drive.account(desk, "a.b.c");
        Drive.account(desk, "x.y");
        String[][] logins = {{"abcdef", "123456"}, {"a", "b.c"}, {"x", "y"}, {"a.b", "c"}, {"x", "b.c"},
            {"abcdef", "12345"}, {"abcde", "123456"}, {"f", "123456"}, {"a", "c"}, {"X", "y"}};
        for (int i = 0; i < logins.length; i++) {
            int c = desk.open();
            Drive.send(desk, c, 5, 1, 2, 1, logins[i][0].length());
            Drive.sendText(desk, c, logins[i][0]);
            Drive.send(desk, c, logins[i][1].length());
            Drive.sendText(desk, c, logins[i][1]);
            check.due("the login " + logins[i][0] + " " + logins[i][1], i < 3 ? 3 : 6, desk.free(c));
        }
    }

    private static void forget() {
        TunnelDesk desk = Drive.lettingAll();
        desk.rule(true, 0, 0, 0, 0, 65535);
        Drive.account(desk, "a.b");
        Drive.type(desk, "abc");
        check.due("forget", 2, desk.forget());
        check.due("no rules", 0, desk.count(0));
        check.due("no accounts", 0, desk.count(1));
        check.due("an empty pad", 0, desk.count(3));
        check.due("nothing is let through", false, desk.lets(1, 1));
        check.due("forget again", 0, desk.forget());
        for (int i = 1; i <= 8; i++) {
            check.due("rules behind it", i, desk.rule(true, 0, 0, 0, 0, 0));
        }
        for (int i = 1; i <= 3; i++) {
            check.due("accounts behind it", i, Drive.account(desk, "a.b"));
        }
    }

    private static void lets() {
        TunnelDesk desk = new TunnelDesk();
        desk.rule(true, 1, TEN, 8, 0, 65535);
        check.due("port 0", true, desk.lets(TEN, 0));
        check.due("port 65535", true, desk.lets(TEN, 65535));
        for (int port : new int[] {-1, 65536, Integer.MIN_VALUE, Integer.MAX_VALUE}) {
            check.refused(desk, "port " + port, IllegalArgumentException.class, () -> desk.lets(TEN, port));
        }
        Drive.type(desk, "11.0.0.1");
        check.due("the pad goes before the address", false, desk.lets(TEN, 1));
        check.due("the pad stays", 8, desk.count(3));
        check.due("the same again", false, desk.lets(TEN, 1));
        desk.rule(true, 1, TEN + (1 << 24), 8, 0, 65535);
        check.due("the pad's address", true, desk.lets(0, 1));
        Drive.type(desk, "a");
        check.due("the pad's name", false, desk.lets(TEN, 1));
        desk.forget();
        desk.rule(true, 1, TEN, 8, 0, 65535);
        check.due("an address behind a name", true, Drive.letsName(desk, "10.0.0.1", 1));
        desk.type('a');
        check.due("a name again", false, desk.lets(TEN, 1));
        Drive.named(desk, false, "", 0, 65535);
        check.due("an address, with an empty pad again", true, desk.lets(TEN, 1));
    }
}
