import java.util.NoSuchElementException;

public final class TunnelDesk {
    public static final int NONE = -1, OVER = -2;

    private static final int CONNECTIONS = 4, RING_ROOM = 16, TEXT_ROOM = 15;
    private static final int MOST_RULES = 8, MOST_ACCOUNTS = 3, LONGEST_SECRET = 6, HIGHEST_PORT = 65535;

    private static final int FREE = 0, GREETING = 1, PASSWORD = 2, REQUEST = 3, CONNECTING = 4, RELAYING = 5, ENDED = 6;

    private static final int ANY = 0, NET = 1, NAMED = 2;

    private static final int OPEN_METHOD = 0, LOGIN_METHOD = 2, NO_METHOD = 255;
    private static final int LOGIN_VERSION = 1, BINARY_VERSION = 5, LINE_END = 10;

    // What a reader of the handshake says of the byte that it was given.
    private static final int MORE = 0, BROKEN = 1, DONE = 2, ODD_TYPE = 3;

    private final Connection[] connections;
    private final Book book;
    private final Text pad;
    // lets() is called often, so its goal is made once.
    private final Goal asked;

    public TunnelDesk() {
        book = new Book();
        pad = new Text();
        asked = new Goal();
        connections = new Connection[CONNECTIONS];
        for (int i = 0; i < connections.length; i++) {
            connections[i] = new Connection(book);
        }
    }

    public boolean type(char c) {
        return isNamePart(c) && pad.put(c);
    }

    public int rule(boolean lets, int kind, int address, int bits, int low, int high)
            throws IllegalArgumentException, IllegalStateException {
        if (kind != ANY && kind != NET) {
            throw new IllegalArgumentException("the kind is neither 0 nor 1");
        }
        if (kind == NET && (bits < 0 || bits > 32)) {
            throw new IllegalArgumentException("bits are 0 to 32");
        }
        requirePorts(low, high);
        Rule made = book.nextRule();
        made.decide(lets, kind, low, high);
        made.cover(address, kind == NET ? bits : 0);
        return book.ruleCount;
    }

    public int named(boolean lets, int low, int high) throws IllegalArgumentException, IllegalStateException {
        if (pad.length == 0) {
            throw new IllegalArgumentException("the pad is empty");
        }
        requirePorts(low, high);
        Rule made = book.nextRule();
        made.decide(lets, NAMED, low, high);
        made.name.copy(pad, 0, pad.length);
        pad.clear();
        return book.ruleCount;
    }

    public int account() throws IllegalArgumentException, IllegalStateException {
        int dot = pad.firstDot();
        if (!isSecretLength(dot) || !isSecretLength(pad.length - dot - 1)) {
            throw new IllegalArgumentException("the pad is no user, dot and password");
        }
        book.addAccount(pad, dot);
        pad.clear();
        return book.accountCount;
    }

    public int forget() {
        int had = book.ruleCount;
        book.clear();
        pad.clear();
        return had;
    }

    public int open() {
        for (int i = 0; i < connections.length; i++) {
            if (connections[i].state == FREE) {
                connections[i].enter(GREETING);
                return i;
            }
        }
        return NONE;
    }

    public int free(int c) throws NoSuchElementException {
        Connection used = usedConnection(c);
        int had = used.state;
        used.clear();
        return had;
    }

    public boolean send(int c, int b)
            throws NoSuchElementException, IllegalArgumentException, IllegalStateException {
        Connection used = usedConnection(c);
        requireByte(b);
        if (used.state == ENDED || used.clientFinished) {
            throw new IllegalStateException("the client can send no more");
        }
        return used.hearClient(b);
    }

    public boolean give(int c, int b)
            throws NoSuchElementException, IllegalArgumentException, IllegalStateException {
        Connection used = usedConnection(c);
        requireByte(b);
        if (used.state != RELAYING || used.targetFinished) {
            throw new IllegalStateException("the target can send nothing");
        }
        return used.hearTarget(b);
    }

    public void connected(int c, boolean stands) throws NoSuchElementException, IllegalStateException {
        Connection used = usedConnection(c);
        if (used.state != CONNECTING) {
            throw new IllegalStateException("the state is not CONNECTING");
        }
        used.endConnecting(stands);
    }

    public int up(int c) throws NoSuchElementException {
        return usedConnection(c).takeForTarget();
    }

    public int down(int c) throws NoSuchElementException {
        return usedConnection(c).takeForClient();
    }

    public void finish(int c, boolean client) throws NoSuchElementException, IllegalStateException {
        Connection used = usedConnection(c);
        if (used.state == ENDED) {
            throw new IllegalStateException("the connection is ended");
        }
        if (client ? used.clientFinished : used.targetFinished) {
            throw new IllegalStateException("that side has finished already");
        }
        if (!client && used.state != RELAYING) {
            throw new IllegalStateException("the target finishes in RELAYING alone");
        }
        used.finishSide(client);
    }

    public int tick() {
        int ended = 0;
        for (int i = 0; i < connections.length; i++) {
            if (connections[i].endsByTick()) {
                ended++;
            }
        }
        return ended;
    }

    public int about(int c, int what) throws NoSuchElementException, IllegalArgumentException {
        if (c < 0 || c >= connections.length) {
            throw new NoSuchElementException("there is no such connection");
        }
        Connection one = connections[c];
        switch (what) {
            case 0: return one.state;
            case 1: return one.toTarget.size;
            case 2: return one.toClient.size;
            case 3: return one.ticks;
            case 4: return one.isText ? 1 : 0;
            case 5: return one.goal.address;
            case 6: return one.goal.name.length;
            case 7: return one.goal.port;
            default: throw new IllegalArgumentException("what is 0 to 7");
        }
    }

    public boolean lets(int address, int port) throws IllegalArgumentException {
        if (port < 0 || port > HIGHEST_PORT) {
            throw new IllegalArgumentException("a port is 0 to 65535");
        }
        asked.aim(address, pad, port);
        return book.letsThrough(asked);
    }

    public float full() {
        int used = 0;
        int bytes = 0;
        for (int i = 0; i < connections.length; i++) {
            if (connections[i].state != FREE) {
                used++;
                bytes += connections[i].toTarget.size + connections[i].toClient.size;
            }
        }
        if (used == 0) {
            return 0f;
        }
        return (float) bytes / (float) (used * 2 * RING_ROOM);
    }

    public int count(int what) throws IllegalArgumentException {
        switch (what) {
            case 0: return book.ruleCount;
            case 1: return book.accountCount;
            case 2: return usedConnections();
            case 3: return pad.length;
            default: throw new IllegalArgumentException("what is 0 to 3");
        }
    }

    private int usedConnections() {
        int used = 0;
        for (int i = 0; i < connections.length; i++) {
            if (connections[i].state != FREE) {
                used++;
            }
        }
        return used;
    }

    private Connection usedConnection(int c) {
        if (c < 0 || c >= connections.length || connections[c].state == FREE) {
            throw new NoSuchElementException("there is no such connection, or it is free");
        }
        return connections[c];
    }

    private static void requireByte(int b) {
        if (b < 0 || b > 255) {
            throw new IllegalArgumentException("a byte is 0 to 255");
        }
    }

    private static void requirePorts(int low, int high) {
        if (low < 0 || low > high || high > HIGHEST_PORT) {
            throw new IllegalArgumentException("ports are 0 to 65535, the low one first");
        }
    }

    private static boolean isSecretLength(int length) {
        return length >= 1 && length <= LONGEST_SECRET;
    }

    private static boolean isDigit(int b) {
        return b >= '0' && b <= '9';
    }

    private static boolean isNamePart(int b) {
        return b >= 'a' && b <= 'z' || isDigit(b) || b == '.' || b == '-';
    }

    /** A short row of characters that is filled, emptied and filled again. */
    private static final class Text {
        private final char[] letters = new char[TEXT_ROOM];
        private int length;

        void clear() {
            length = 0;
        }

        boolean put(int letter) {
            if (length < 0 || length >= letters.length) {
                return false;
            }
            letters[length] = (char) letter;
            length++;
            return true;
        }

        void copy(Text other, int from, int to) {
            clear();
            for (int i = Math.max(from, 0); i < to && i < other.length; i++) {
                put(other.letters[i]);
            }
        }

        int firstDot() {
            for (int i = 0; i < length; i++) {
                if (letters[i] == '.') {
                    return i;
                }
            }
            return NONE;
        }

        boolean isSame(Text other) {
            return length == other.length && isOrEndsByDotAnd(other);
        }

        boolean isOrEndsByDotAnd(Text tail) {
            int start = length - tail.length;
            if (start < 0) {
                return false;
            }
            for (int i = 0; i < tail.length; i++) {
                if (letters[start + i] != tail.letters[i]) {
                    return false;
                }
            }
            return start == 0 || letters[start - 1] == '.';
        }

        boolean hasOnlyNameParts() {
            for (int i = 0; i < length; i++) {
                if (!isNamePart(letters[i])) {
                    return false;
                }
            }
            return true;
        }

        /** A long, since every int is an address and NONE has to be told from all of them. */
        long dottedAddress() {
            long address = 0;
            int number = 0;
            int digits = 0;
            int dots = 0;
            for (int i = 0; i < length; i++) {
                char letter = letters[i];
                if (letter == '.' && digits > 0 && dots < 3) {
                    address = address << 8 | number;
                    dots++;
                    number = 0;
                    digits = 0;
                } else if (isDigit(letter) && digits < 3) {
                    number = number * 10 + letter - '0';
                    digits++;
                } else {
                    return NONE;
                }
                if (number > 255) {
                    return NONE;
                }
            }
            return dots == 3 && digits > 0 ? address << 8 | number : NONE;
        }
    }

    private static final class Ring {
        private final int[] bytes = new int[RING_ROOM];
        private int first;
        private int size;

        void clear() {
            first = 0;
            size = 0;
        }

        boolean put(int b) {
            if (size >= RING_ROOM) {
                return false;
            }
            bytes[(first + size) & (RING_ROOM - 1)] = b;
            size++;
            return true;
        }

        int take() {
            if (size <= 0) {
                return NONE;
            }
            int b = bytes[first & (RING_ROOM - 1)];
            first = (first + 1) & (RING_ROOM - 1);
            size--;
            return b;
        }
    }

    /** With a name that is not empty it is a name, and the address is 0 then. */
    private static final class Goal {
        private final Text name = new Text();
        private int address;
        private int port;

        void clear() {
            name.clear();
            address = 0;
            port = 0;
        }

        void aim(int givenAddress, Text givenName, int givenPort) {
            port = givenPort;
            if (givenName.length == 0) {
                name.clear();
                address = givenAddress;
                return;
            }
            long dotted = givenName.dottedAddress();
            if (dotted == NONE) {
                name.copy(givenName, 0, givenName.length);
                address = 0;
            } else {
                name.clear();
                address = (int) dotted;
            }
        }
    }

    private static final class Rule {
        private final Text name = new Text();
        private boolean passes;
        private int kind;
        private int address;
        private int mask;
        private int low;
        private int high;

        void decide(boolean givenPasses, int givenKind, int givenLow, int givenHigh) {
            passes = givenPasses;
            kind = givenKind;
            low = givenLow;
            high = givenHigh;
        }

        void cover(int givenAddress, int bits) {
            address = givenAddress;
            // Java shifts by the low five bits alone, so a shift by 32 would keep every bit.
            mask = bits == 0 ? 0 : -1 << (32 - bits);
        }

        boolean isMeantFor(Goal goal) {
            if (goal.port < low || goal.port > high) {
                return false;
            }
            boolean hasName = goal.name.length > 0;
            switch (kind) {
                case ANY: return true;
                case NET: return !hasName && ((goal.address ^ address) & mask) == 0;
                default: return hasName && goal.name.isOrEndsByDotAnd(name);
            }
        }
    }

    /** The rules and the accounts, in places that are made once and used again after forget(). */
    private static final class Book {
        private final Rule[] rules = new Rule[MOST_RULES];
        private final Text[] users = new Text[MOST_ACCOUNTS];
        private final Text[] passwords = new Text[MOST_ACCOUNTS];
        private int ruleCount;
        private int accountCount;

        Book() {
            for (int i = 0; i < rules.length; i++) {
                rules[i] = new Rule();
            }
            for (int i = 0; i < users.length && i < passwords.length; i++) {
                users[i] = new Text();
                passwords[i] = new Text();
            }
        }

        void clear() {
            ruleCount = 0;
            accountCount = 0;
        }

        Rule nextRule() {
            if (ruleCount < 0 || ruleCount >= rules.length) {
                throw new IllegalStateException("there are 8 rules");
            }
            Rule next = rules[ruleCount];
            ruleCount++;
            return next;
        }

        void addAccount(Text text, int dot) {
            if (accountCount < 0 || accountCount >= users.length || accountCount >= passwords.length) {
                throw new IllegalStateException("there are three accounts");
            }
            users[accountCount].copy(text, 0, dot);
            passwords[accountCount].copy(text, dot + 1, text.length);
            accountCount++;
        }

        boolean hasAccount(Text user, Text password) {
            for (int i = 0; i < accountCount && i < users.length && i < passwords.length; i++) {
                if (users[i].isSame(user) && passwords[i].isSame(password)) {
                    return true;
                }
            }
            return false;
        }

        boolean letsThrough(Goal goal) {
            for (int i = 0; i < ruleCount && i < rules.length; i++) {
                if (rules[i].isMeantFor(goal)) {
                    return rules[i].passes;
                }
            }
            return false;
        }
    }

    /** Reads what follows the first byte of a binary greeting. */
    private static final class GreetingReader {
        private static final int MOST_METHODS = 4;

        private int left;
        private boolean offersOpen;
        private boolean offersLogin;

        void clear() {
            left = 0;
            offersOpen = false;
            offersLogin = false;
        }

        int read(int b) {
            if (left == 0) {
                left = b;
                return b >= 1 && b <= MOST_METHODS ? MORE : BROKEN;
            }
            // Both are kept, since accounts may come and go until the last method is here.
            offersOpen = offersOpen || b == OPEN_METHOD;
            offersLogin = offersLogin || b == LOGIN_METHOD;
            left--;
            return left == 0 ? DONE : MORE;
        }

        boolean offers(int method) {
            return method == LOGIN_METHOD ? offersLogin : offersOpen;
        }
    }

    private static final class LoginReader {
        private static final int VERSION = 0, USER_LENGTH = 1, USER_TEXT = 2, PASSWORD_LENGTH = 3;

        private final Text user = new Text();
        private final Text password = new Text();
        private int step;
        private int left;

        void clear() {
            user.clear();
            password.clear();
            step = VERSION;
            left = 0;
        }

        int read(int b) {
            switch (step) {
                case VERSION:
                    step++;
                    return b == LOGIN_VERSION ? MORE : BROKEN;
                case USER_LENGTH:
                case PASSWORD_LENGTH:
                    step++;
                    left = b;
                    return isSecretLength(b) ? MORE : BROKEN;
                case USER_TEXT:
                    user.put(b);
                    left--;
                    step = left == 0 ? PASSWORD_LENGTH : USER_TEXT;
                    return MORE;
                default:
                    password.put(b);
                    left--;
                    return left == 0 ? DONE : MORE;
            }
        }
    }

    private static final class RequestReader {
        private static final int VERSION = 0, COMMAND = 1, ZERO = 2, TYPE = 3;
        private static final int ADDRESS = 4, NAME_LENGTH = 5, NAME = 6, PORT = 7;
        private static final int ADDRESS_TYPE = 1, NAME_TYPE = 3;
        private static final int CONNECT_COMMAND = 1, ADDRESS_BYTES = 4, PORT_BYTES = 2;

        private final Text name = new Text();
        private int step;
        private int left;
        private int command;
        private int address;
        private int port;

        void clear() {
            name.clear();
            step = VERSION;
            left = 0;
            command = 0;
            address = 0;
            port = 0;
        }

        boolean isToConnect() {
            return command == CONNECT_COMMAND;
        }

        int read(int b) {
            switch (step) {
                case VERSION:
                    step = COMMAND;
                    return b == BINARY_VERSION ? MORE : BROKEN;
                case COMMAND:
                    step = ZERO;
                    command = b;
                    return MORE;
                case ZERO:
                    step = TYPE;
                    return b == 0 ? MORE : BROKEN;
                case TYPE:
                    return readType(b);
                case NAME_LENGTH:
                    step = NAME;
                    left = b;
                    return b >= 1 && b <= TEXT_ROOM ? MORE : BROKEN;
                case ADDRESS:
                    address = address << 8 | b;
                    return goOnToPort();
                case NAME:
                    name.put(b);
                    return goOnToPort();
                default:
                    port = port << 8 | b;
                    left--;
                    return left == 0 ? DONE : MORE;
            }
        }

        private int readType(int b) {
            step = b == ADDRESS_TYPE ? ADDRESS : NAME_LENGTH;
            left = ADDRESS_BYTES;
            return b == ADDRESS_TYPE || b == NAME_TYPE ? MORE : ODD_TYPE;
        }

        private int goOnToPort() {
            left--;
            if (left == 0) {
                step = PORT;
                left = PORT_BYTES;
            }
            return MORE;
        }
    }

    /** Reads what follows the first letter of a handshake in text. */
    private static final class LineReader {
        private static final String REST_OF_WORD = "ONNECT ";
        private static final int WORD = 0, NAME = 1, PORT = 2, LAST = 3;
        private static final int MOST_DIGITS = 5;

        private final Text name = new Text();
        private int step;
        private int matched;
        private int digits;
        private int port;

        void clear() {
            name.clear();
            step = WORD;
            matched = 0;
            digits = 0;
            port = 0;
        }

        int read(int b) {
            switch (step) {
                case WORD: return readWord(b);
                case NAME: return readName(b);
                case PORT: return readPort(b);
                default: return b == LINE_END ? DONE : BROKEN;
            }
        }

        private int readWord(int b) {
            if (matched < 0 || matched >= REST_OF_WORD.length() || REST_OF_WORD.charAt(matched) != b) {
                return BROKEN;
            }
            matched++;
            if (matched == REST_OF_WORD.length()) {
                step = NAME;
            }
            return MORE;
        }

        private int readName(int b) {
            if (b == ':' && name.length > 0) {
                step = PORT;
                return MORE;
            }
            return isNamePart(b) && name.put(b) ? MORE : BROKEN;
        }

        private int readPort(int b) {
            if (b == LINE_END && digits > 0 && port <= HIGHEST_PORT) {
                step = LAST;
                return MORE;
            }
            if (!isDigit(b) || digits >= MOST_DIGITS) {
                return BROKEN;
            }
            port = port * 10 + b - '0';
            digits++;
            return MORE;
        }
    }

    private static final class Connection {
        private static final int HANDSHAKE_TICKS = 8, CONNECTING_TICKS = 12, RELAYING_TICKS = 30;
        private static final int STANDS = 0, BAD_NAME = 1, NOT_LET = 2, NO_TARGET = 5, BAD_COMMAND = 7, BAD_TYPE = 8;
        private static final int TEXT_STANDS = 200, TEXT_BROKEN = 400, TEXT_NOT_LET = 403;
        private static final int TEXT_LOGIN = 407, TEXT_NO_TARGET = 502;

        private final Book book;
        private final Ring toTarget = new Ring();
        private final Ring toClient = new Ring();
        private final Goal goal = new Goal();
        private final GreetingReader greeting = new GreetingReader();
        private final LoginReader login = new LoginReader();
        private final RequestReader request = new RequestReader();
        private final LineReader line = new LineReader();
        private int state;
        private int ticks;
        private boolean hasBegun;
        private boolean isText;
        private boolean clientFinished;
        private boolean targetFinished;

        Connection(Book givenBook) {
            book = givenBook;
        }

        void clear() {
            toTarget.clear();
            toClient.clear();
            goal.clear();
            greeting.clear();
            login.clear();
            request.clear();
            line.clear();
            state = FREE;
            ticks = 0;
            hasBegun = false;
            isText = false;
            clientFinished = false;
            targetFinished = false;
        }

        void enter(int next) {
            state = next;
            ticks = 0;
            if (next == ENDED) {
                toTarget.clear();
            }
        }

        boolean hearClient(int b) {
            if (state == CONNECTING || state == RELAYING) {
                return relay(toTarget, b);
            }
            ticks = 0;
            if (!hasBegun) {
                begin(b);
            } else if (isText) {
                hearLine(b);
            } else if (state == GREETING) {
                hearGreeting(b);
            } else if (state == PASSWORD) {
                hearLogin(b);
            } else {
                hearRequest(b);
            }
            return true;
        }

        boolean hearTarget(int b) {
            return relay(toClient, b);
        }

        private boolean relay(Ring ring, int b) {
            if (!ring.put(b)) {
                return false;
            }
            ticks = 0;
            return true;
        }

        private void begin(int b) {
            hasBegun = true;
            isText = b == 'C';
            if (!isText && b != BINARY_VERSION) {
                enter(ENDED);
            }
        }

        private void hearGreeting(int b) {
            int said = greeting.read(b);
            if (said == BROKEN) {
                enter(ENDED);
            } else if (said == DONE) {
                answerGreeting();
            }
        }

        private void answerGreeting() {
            int wanted = book.accountCount > 0 ? LOGIN_METHOD : OPEN_METHOD;
            boolean offered = greeting.offers(wanted);
            toClient.put(BINARY_VERSION);
            toClient.put(offered ? wanted : NO_METHOD);
            if (!offered) {
                enter(ENDED);
            } else {
                enter(wanted == LOGIN_METHOD ? PASSWORD : REQUEST);
            }
        }

        private void hearLogin(int b) {
            int said = login.read(b);
            if (said == BROKEN) {
                enter(ENDED);
            } else if (said == DONE) {
                boolean known = book.hasAccount(login.user, login.password);
                toClient.put(LOGIN_VERSION);
                toClient.put(known ? 0 : 1);
                enter(known ? REQUEST : ENDED);
            }
        }

        private void hearRequest(int b) {
            int said = request.read(b);
            if (said == BROKEN) {
                enter(ENDED);
            } else if (said == ODD_TYPE) {
                reply(BAD_TYPE);
            } else if (said == DONE) {
                judgeRequest();
            }
        }

        private void judgeRequest() {
            if (!request.name.hasOnlyNameParts()) {
                reply(BAD_NAME);
                return;
            }
            if (!request.isToConnect()) {
                reply(BAD_COMMAND);
                return;
            }
            goal.aim(request.address, request.name, request.port);
            if (book.letsThrough(goal)) {
                enter(CONNECTING);
            } else {
                reply(NOT_LET);
            }
        }

        private void reply(int r) {
            toClient.put(BINARY_VERSION);
            toClient.put(r);
            toClient.put(0);
            toClient.put(1);
            for (int i = 0; i < 6; i++) {
                toClient.put(0);
            }
            if (r != STANDS) {
                enter(ENDED);
            }
        }

        private void hearLine(int b) {
            int said = line.read(b);
            if (said == BROKEN) {
                tellStatus(TEXT_BROKEN);
            } else if (said == DONE) {
                judgeLine();
            }
        }

        private void judgeLine() {
            if (book.accountCount > 0) {
                tellStatus(TEXT_LOGIN);
                return;
            }
            goal.aim(0, line.name, line.port);
            if (book.letsThrough(goal)) {
                enter(CONNECTING);
            } else {
                tellStatus(TEXT_NOT_LET);
            }
        }

        private void tellStatus(int status) {
            toClient.put('0' + status / 100);
            toClient.put('0' + status / 10 % 10);
            toClient.put('0' + status % 10);
            toClient.put(LINE_END);
            if (status != TEXT_STANDS) {
                enter(ENDED);
            }
        }

        void endConnecting(boolean stands) {
            if (isText) {
                tellStatus(stands ? TEXT_STANDS : TEXT_NO_TARGET);
            } else {
                reply(stands ? STANDS : NO_TARGET);
            }
            if (stands) {
                enter(RELAYING);
            }
        }

        int takeForTarget() {
            return takeFrom(toTarget, clientFinished);
        }

        int takeForClient() {
            return takeFrom(toClient, targetFinished);
        }

        private int takeFrom(Ring ring, boolean senderFinished) {
            if (ring.size == 0) {
                return senderFinished || state == ENDED ? OVER : NONE;
            }
            int b = ring.take();
            ticks = 0;
            endIfAllIsDone();
            return b;
        }

        void finishSide(boolean client) {
            if (state != RELAYING) {
                enter(ENDED);
                return;
            }
            if (client) {
                clientFinished = true;
            } else {
                targetFinished = true;
            }
            endIfAllIsDone();
        }

        private void endIfAllIsDone() {
            boolean bothFinished = clientFinished && targetFinished;
            if (state == RELAYING && bothFinished && toTarget.size == 0 && toClient.size == 0) {
                enter(ENDED);
            }
        }

        boolean endsByTick() {
            if (state == FREE || state == ENDED) {
                return false;
            }
            ticks++;
            if (ticks < mostTicks()) {
                return false;
            }
            enter(ENDED);
            return true;
        }

        private int mostTicks() {
            switch (state) {
                case CONNECTING: return CONNECTING_TICKS;
                case RELAYING: return RELAYING_TICKS;
                default: return HANDSHAKE_TICKS;
            }
        }
    }
}
