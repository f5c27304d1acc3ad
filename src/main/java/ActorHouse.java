import java.util.ArrayList;
import java.util.Arrays;
import java.util.List;

/**
 * A house of actors: the text of a program is fed in, built (read and checked) and run, one
 * instruction of one actor at a time, in the order that the caller asks for.
 */
public final class ActorHouse {
    public static final int NONE = -1;

    private static final int MOST_TEXT = 2000;
    private static final int MOST_KINDS = 8;
    private static final int MOST_FIELDS = 8;
    private static final int MOST_METHODS = 8;
    private static final int MOST_PARAMETERS = 6;
    private static final int MOST_LOCALS = 16;
    private static final int MOST_DEPTH = 24;
    private static final int MOST_CELLS = 400;
    private static final int MOST_MESSAGES = 6;
    private static final int MOST_AT_ONCE = 200;
    private static final int MOST_ACTORS = 12;
    private static final int MOST_BODIES = 10;
    private static final int MOST_TOLD = 200;
    private static final int MOST_OUTPUT = 3000;

    private static final int ISO = 0;
    private static final int TRN = 1;
    private static final int REF = 2;
    private static final int VAL = 3;
    private static final int BOX = 4;
    private static final int CAPS = 5;

    // The tables' rows and columns are iso, trn, ref, val, box.
    private static final int[] AS_GOOD = {
        1, 1, 1, 1, 1,
        0, 1, 1, 1, 1,
        0, 0, 1, 0, 1,
        0, 0, 0, 1, 1,
        0, 0, 0, 0, 1};
    private static final int[] SEEN = {
        ISO, NONE, NONE, VAL, NONE,
        ISO, BOX, BOX, VAL, BOX,
        ISO, TRN, REF, VAL, BOX,
        VAL, VAL, VAL, VAL, VAL,
        NONE, BOX, BOX, VAL, BOX};
    private static final int[] SWAPPED = {
        ISO, NONE, NONE, VAL, NONE,
        ISO, BOX, BOX, VAL, BOX,
        ISO, TRN, REF, VAL, BOX,
        NONE, NONE, NONE, NONE, NONE,
        NONE, NONE, NONE, NONE, NONE};
    private static final int[] SAFE = {
        1, 0, 0, 1, 0,
        1, 1, 0, 1, 0,
        1, 1, 1, 1, 1,
        0, 0, 0, 0, 0,
        0, 0, 0, 0, 0};

    // What an expression gives is one int: its sort, its kind's number and its CAP.
    private static final int NOTHING = 0;
    private static final int INT = 1;
    private static final int EMPTY = 2;
    private static final int ACTOR = 3;
    private static final int OWN = 4;
    private static final int OBJECT = 5;

    private final StringBuilder text;
    private final World running;
    private final Output output;
    private Program built;
    private int faultNumber;
    private int faultPlace;

    public ActorHouse() {
        text = new StringBuilder();
        running = new World();
        output = new Output();
        built = null;
        faultNumber = NONE;
        faultPlace = NONE;
    }

    public int feed(int a, int b, int c, int d, int e) {
        if (text.length() + 20 > MOST_TEXT) {
            return NONE;
        }
        addBytes(a);
        addBytes(b);
        addBytes(c);
        addBytes(d);
        addBytes(e);
        return text.length();
    }

    public int end(int n) {
        if (n < 0 || n > text.length()) {
            return NONE;
        }
        text.setLength(n);
        return n;
    }

    public int build() {
        Program read = new Program(text.length());
        Reader reader = new Reader(text.toString());
        reader.cutAll();
        Parser parser = new Parser(reader, read);
        parser.readAll();
        if (read.faultNumber == 0) {
            read.declare();
        }
        if (read.faultNumber == 0) {
            Checker checker = new Checker(read);
            checker.checkAll();
        }
        text.setLength(0);
        running.stop();
        output.clear();
        faultNumber = read.faultNumber;
        faultPlace = read.faultPlace;
        built = faultNumber == 0 ? read : null;
        return faultNumber == 0 ? read.kinds.size() : NONE;
    }

    public int fault(int what) {
        if (what == 0) {
            return faultNumber;
        }
        return what == 1 ? faultPlace : NONE;
    }

    public int program(int what) {
        if (built == null) {
            return NONE;
        }
        switch (what) {
            case 0: return built.kinds.size();
            case 1: return built.countFields();
            case 2: return built.methods.size() - built.kinds.size();
            case 3: return built.parts;
            case 4: return built.vars;
            default: return NONE;
        }
    }

    public int rights(int what, int a, int b) {
        if (a < 0 || a >= CAPS || b < 0 || b >= CAPS) {
            return NONE;
        }
        switch (what) {
            case 0: return look(AS_GOOD, a, b);
            case 1: return look(SEEN, a, b);
            case 2: return look(SWAPPED, a, b);
            case 3: return look(SAFE, a, b);
            default: return NONE;
        }
    }

    public boolean start(int cells, int mailbox) {
        if (built == null || cells < 1 || cells > MOST_CELLS || mailbox < 1 || mailbox > MOST_MESSAGES) {
            return false;
        }
        if (built.cellsOf(built.main) > cells) {
            return false;
        }
        output.clear();
        running.begin(built, cells, mailbox);
        return true;
    }

    public int step(int actor, int n) {
        if (n < 1 || n > MOST_AT_ONCE) {
            return NONE;
        }
        Actor doer = running.find(actor);
        if (doer == null) {
            return NONE;
        }
        int done = 0;
        while (done < n && running.instruct(doer)) {
            done++;
        }
        return done;
    }

    public int world(int what) {
        switch (what) {
            case 0: return running.actorCount;
            case 1: return running.objects;
            case 2: return running.taken;
            case 3: return running.instructions;
            case 4: return running.tellings;
            case 5: return running.messages;
            case 6: return running.fulls;
            case 7: return running.fails;
            default: return NONE;
        }
    }

    public int actor(int a, int what) {
        Actor asked = running.find(a);
        if (asked == null) {
            return NONE;
        }
        switch (what) {
            case 0: return asked.kind.number;
            case 1: return asked.bodies;
            case 2: return asked.waiting;
            case 3: return asked.instructions;
            case 4: return asked.latestFail;
            default: return NONE;
        }
    }

    public int told(int k, int what) {
        if (k < 0 || k >= MOST_TOLD || k >= running.tellings) {
            return 0;
        }
        if (what == 0) {
            return running.numbersTold[k];
        }
        return what == 1 ? running.tellers[k] : 0;
    }

    public int show(int actor, int f) {
        output.clear();
        Actor asked = running.find(actor);
        if (asked == null || f < 0 || f >= asked.kind.fields.size()) {
            return NONE;
        }
        output.writeField(running, asked, f);
        return output.length();
    }

    public int peek(int actor, int k) {
        output.clear();
        Actor asked = running.find(actor);
        if (asked == null || k < 0 || k >= asked.waiting) {
            return NONE;
        }
        output.writeMessage(running, asked, k);
        return output.length();
    }

    public int letter(int k) {
        return output.at(k);
    }

    private void addBytes(int word) {
        for (int shift = 24; shift >= 0; shift -= 8) {
            text.append((char) (word >> shift & 255));
        }
    }

    private static int look(int[] table, int row, int column) {
        if (row < 0 || row >= CAPS || column < 0 || column >= CAPS) {
            return NONE;
        }
        return table[row * CAPS + column];
    }

    private static int typeOf(int sort, int kind, int cap) {
        return sort | kind << 4 | cap << 8;
    }

    private static int sortOf(int type) {
        return type & 15;
    }

    private static int kindOf(int type) {
        return type >> 4 & 15;
    }

    private static int capOf(int type) {
        return type >> 8 & 7;
    }

    private static boolean sendable(int type) {
        int sort = sortOf(type);
        if (sort == OBJECT) {
            return capOf(type) == ISO || capOf(type) == VAL;
        }
        return sort == INT || sort == ACTOR;
    }

    /** What a table makes of a field's type behind a CAP; NONE if it can't be. */
    private static int behindCap(int[] table, int cap, int fieldType) {
        if (sortOf(fieldType) != OBJECT) {
            return fieldType;
        }
        int turned = look(table, cap, capOf(fieldType));
        return turned == NONE ? NONE : typeOf(OBJECT, kindOf(fieldType), turned);
    }

    /** Cuts the text into words, numbers and signs. */
    private static final class Reader {
        static final int END = 0;
        static final int BAD = 1;
        static final int NAME = 2;
        static final int TITLE = 3;
        static final int NUMBER = 4;
        static final int OPEN_BLOCK = 5;
        static final int CLOSE_BLOCK = 6;
        static final int OPEN = 7;
        static final int CLOSE = 8;
        static final int SEMICOLON = 9;
        static final int COMMA = 10;
        static final int COLON = 11;
        static final int DOT = 12;
        static final int BANG = 13;
        static final int BECOMES = 14;
        static final int LESS = 15;
        static final int PLUS = 16;
        static final int MINUS = 17;
        static final int TIMES = 18;
        static final int SAME = 19;
        static final int CLASS = 20;
        static final int ACTOR_WORD = 21;
        static final int NEW = 22;
        static final int FUN = 23;
        static final int BE = 24;
        static final int VAR = 25;
        static final int IF = 26;
        static final int ELSE = 27;
        static final int WHILE = 28;
        static final int RETURN = 29;
        static final int TELL = 30;
        static final int GIVE = 31;
        static final int HAS = 32;
        static final int SWAP = 33;
        static final int NONE_WORD = 34;
        static final int THIS = 35;
        static final int CONSUME = 36;
        static final int RECOVER = 37;
        static final int FIRST_CAP = 38;
        static final int INT_WORD = 43;

        // The order is that of the numbers above, from OPEN_BLOCK and from CLASS on.
        private static final String SIGNS = "{}();,:.!=<+-*";
        private static final String WORDS =
            "class actor new fun be var if else while return tell give has swap none this consume recover iso trn ref val box int ";
        private static final int MOST_WORD = 8;
        private static final int MOST_DIGITS = 9;

        private final String text;
        private final int[] tokens;
        private final int[] places;
        private final int[] ends;
        private int count;
        private int current;
        int token;
        int place;
        int refusedAt;

        Reader(String text) {
            this.text = text;
            tokens = new int[text.length() + 1];
            places = new int[text.length() + 1];
            ends = new int[text.length() + 1];
            count = 0;
            current = NONE;
            token = END;
            place = 0;
            refusedAt = NONE;
        }

        void cutAll() {
            int at = 0;
            while (at < text.length() && count < tokens.length) {
                if (text.charAt(at) == ' ') {
                    at++;
                } else {
                    int end = endOf(at);
                    tokens[count] = isAlphanumeric(text.charAt(at)) ? rowToken(at, end) : signToken(at, end);
                    places[count] = at;
                    ends[count] = end;
                    count++;
                    at = end;
                }
            }
        }

        void advance() {
            if (refusedAt != NONE) {
                return;
            }
            if (current < count) {
                current++;
            }
            boolean isThere = current >= 0 && current < count;
            token = isThere ? tokens[current] : END;
            place = isThere ? places[current] : text.length();
        }

        /** From here on no token fits anything, so every loop of the parser ends by itself. */
        void refuse() {
            if (refusedAt == NONE) {
                refusedAt = place;
            }
            token = BAD;
        }

        boolean atCap() {
            return token >= FIRST_CAP && token < FIRST_CAP + CAPS;
        }

        boolean atOperator() {
            return token >= LESS && token <= SAME;
        }

        String word() {
            return current < 0 || current >= count ? "" : text.substring(places[current], ends[current]);
        }

        int number() {
            int value = 0;
            if (current >= 0 && current < count) {
                for (int i = places[current]; i < ends[current]; i++) {
                    value = value * 10 + (text.charAt(i) - '0');
                }
            }
            return value;
        }

        private int endOf(int begin) {
            int at = begin;
            while (at < text.length() && isAlphanumeric(text.charAt(at))) {
                at++;
            }
            if (at > begin) {
                return at;
            }
            boolean isSame = text.charAt(at) == '=' && at + 1 < text.length() && text.charAt(at + 1) == '=';
            return isSame ? at + 2 : at + 1;
        }

        private int signToken(int begin, int end) {
            if (end - begin == 2) {
                return SAME;
            }
            int found = SIGNS.indexOf(text.charAt(begin));
            return found < 0 ? BAD : OPEN_BLOCK + found;
        }

        private int rowToken(int begin, int end) {
            boolean digitsAlone = true;
            boolean anyGreat = false;
            for (int i = begin; i < end; i++) {
                digitsAlone = digitsAlone && isDigit(text.charAt(i));
                anyGreat = anyGreat || isGreat(text.charAt(i));
            }
            if (digitsAlone) {
                return end - begin <= MOST_DIGITS ? NUMBER : BAD;
            }
            if (isDigit(text.charAt(begin)) || end - begin > MOST_WORD) {
                return BAD;
            }
            if (isGreat(text.charAt(begin))) {
                return TITLE;
            }
            return anyGreat ? BAD : nameOrKeyword(begin, end - begin);
        }

        private int nameOrKeyword(int begin, int length) {
            int number = CLASS;
            int wordBegin = 0;
            for (int i = 0; i < WORDS.length(); i++) {
                if (WORDS.charAt(i) == ' ') {
                    if (i - wordBegin == length && isWordAt(wordBegin, begin, length)) {
                        return number;
                    }
                    number++;
                    wordBegin = i + 1;
                }
            }
            return NAME;
        }

        private boolean isWordAt(int wordBegin, int begin, int length) {
            for (int i = 0; i < length; i++) {
                if (WORDS.charAt(wordBegin + i) != text.charAt(begin + i)) {
                    return false;
                }
            }
            return true;
        }

        private static boolean isAlphanumeric(char c) {
            return isDigit(c) || isGreat(c) || c >= 'a' && c <= 'z';
        }

        private static boolean isDigit(char c) {
            return c >= '0' && c <= '9';
        }

        private static boolean isGreat(char c) {
            return c >= 'A' && c <= 'Z';
        }
    }

    /** A TYPE as it is written, with the name that it is for, if there is one. */
    private static final class Decl {
        final String name;
        final int place;
        int cap;
        int capPlace;
        String title;
        int titlePlace;
        boolean behindNew;
        int type;
        int slot;

        Decl(String name, int place) {
            this.name = name;
            this.place = place;
            cap = NONE;
            capPlace = NONE;
            title = null;
            titlePlace = NONE;
            behindNew = false;
            type = NOTHING;
            slot = 0;
        }
    }

    /** A class or an actor. */
    private static final class Kind {
        final String title;
        final int place;
        final boolean isActor;
        final int number;
        final List<Decl> fields;
        final List<Method> methods;
        Method maker;

        Kind(String title, int place, boolean isActor, int number) {
            this.title = title;
            this.place = place;
            this.isActor = isActor;
            this.number = number;
            fields = new ArrayList<>();
            methods = new ArrayList<>();
            maker = null;
        }

        Decl findField(String name) {
            for (int i = 0; i < fields.size(); i++) {
                if (fields.get(i).name.equals(name)) {
                    return fields.get(i);
                }
            }
            return null;
        }

        Method findMethod(String name, int sort) {
            for (int i = 0; i < methods.size(); i++) {
                Method method = methods.get(i);
                if (method.name.equals(name)) {
                    return method.sort == sort ? method : null;
                }
            }
            return null;
        }
    }

    /** A MAKER, a fun or a be. */
    private static final class Method {
        static final int MAKER = 0;
        static final int FUN = 1;
        static final int BE = 2;

        final int sort;
        final Kind owner;
        final int number;
        final String name;
        final int place;
        final List<Decl> parameters;
        int cap;
        int capPlace;
        Decl result;
        Node body;
        int locals;
        int entry;
        boolean takesSendable;
        boolean isHarmless;

        Method(int sort, Kind owner, int number, String name, int place) {
            this.sort = sort;
            this.owner = owner;
            this.number = number;
            this.name = name;
            this.place = place;
            parameters = new ArrayList<>();
            cap = REF;
            capPlace = NONE;
            result = null;
            body = null;
            locals = 0;
            entry = 0;
            takesSendable = true;
            isHarmless = true;
        }
    }

    /** A part of a body: an expression, a step or a block. */
    private static final class Node {
        static final int NUMBER = 1;
        static final int NONE_WORD = 2;
        static final int THIS = 3;
        static final int NAME = 4;
        static final int CONSUME = 5;
        static final int HAS = 6;
        static final int SWAP = 7;
        static final int NEW = 8;
        static final int RECOVER = 9;
        static final int FIELD = 10;
        static final int CALL = 11;
        static final int MESSAGE = 12;
        static final int OPERATOR = 13;
        static final int BLOCK = 14;
        static final int VAR = 15;
        static final int IF = 16;
        static final int WHILE = 17;
        static final int TELL = 18;
        static final int RETURN = 19;
        static final int GIVE = 20;
        static final int BECOMES = 21;
        static final int ALONE = 22;

        final int what;
        final int place;
        String name;
        int spot;
        int number;
        Decl decl;
        Node ahead;
        Node behind;
        Node first;
        Node second;
        Node third;
        List<Node> parts;
        int type;

        Node(int what, int place) {
            this.what = what;
            this.place = place;
            name = "";
            spot = place;
            number = 0;
            decl = null;
            ahead = null;
            behind = null;
            first = null;
            second = null;
            third = null;
            parts = null;
            type = NOTHING;
        }

        void addPart(Node part) {
            if (parts == null) {
                parts = new ArrayList<>();
            }
            parts.add(part);
        }

        int countParts() {
            return parts == null ? 0 : parts.size();
        }

        Node part(int i) {
            return parts == null || i < 0 || i >= parts.size() ? null : parts.get(i);
        }

        boolean isPlace() {
            return what == THIS || what == NAME || what == FIELD;
        }
    }

    /** Reads the grammar; what comes behind a first fault is passed over without harm. */
    private static final class Parser {
        private final Reader in;
        private final Program out;

        Parser(Reader in, Program out) {
            this.in = in;
            this.out = out;
        }

        void readAll() {
            in.advance();
            int count = 0;
            while (count < MOST_KINDS && (in.token == Reader.CLASS || in.token == Reader.ACTOR_WORD)) {
                Kind kind = readHead();
                readFields(kind);
                readMaker(kind);
                for (int i = 0; i <= MOST_METHODS && (in.token == Reader.FUN || in.token == Reader.BE); i++) {
                    readMethod(kind);
                }
                take(Reader.CLOSE_BLOCK);
                count++;
            }
            if (count == 0 || in.token != Reader.END) {
                in.refuse();
            }
            if (in.refusedAt != NONE) {
                out.note(1, in.refusedAt);
            }
        }

        private Kind readHead() {
            boolean isActor = in.token == Reader.ACTOR_WORD;
            in.advance();
            int place = in.place;
            Kind kind = new Kind(takeWord(Reader.TITLE), place, isActor, out.kinds.size());
            out.kinds.add(kind);
            take(Reader.OPEN_BLOCK);
            return kind;
        }

        private void readFields(Kind kind) {
            for (int i = 0; i <= MOST_FIELDS && in.token == Reader.VAR; i++) {
                if (i == MOST_FIELDS) {
                    in.refuse();
                } else {
                    in.advance();
                    Decl field = readDecl();
                    field.slot = i;
                    kind.fields.add(field);
                    take(Reader.SEMICOLON);
                }
            }
        }

        private void readMaker(Kind kind) {
            Method maker = new Method(Method.MAKER, kind, out.methods.size(), "new", in.place);
            kind.maker = maker;
            out.methods.add(maker);
            take(Reader.NEW);
            readParameters(maker);
            maker.body = readBlock(maker, 1);
        }

        private void readMethod(Kind kind) {
            int sort = in.token == Reader.FUN ? Method.FUN : Method.BE;
            if (kind.methods.size() >= MOST_METHODS || sort == Method.BE && !kind.isActor) {
                in.refuse();
            }
            in.advance();
            int capPlace = in.place;
            int cap = sort == Method.FUN ? takeCap() : REF;
            int place = in.place;
            Method method = new Method(sort, kind, out.methods.size(), takeWord(Reader.NAME), place);
            method.cap = cap;
            method.capPlace = capPlace;
            kind.methods.add(method);
            out.methods.add(method);
            readParameters(method);
            if (sort == Method.FUN && in.token == Reader.COLON) {
                in.advance();
                method.result = new Decl("", in.place);
                readType(method.result);
            }
            method.body = readBlock(method, 1);
        }

        private void readParameters(Method method) {
            take(Reader.OPEN);
            boolean more = in.token != Reader.CLOSE;
            for (int i = 0; more && i <= MOST_PARAMETERS; i++) {
                if (i == MOST_PARAMETERS) {
                    in.refuse();
                }
                Decl parameter = readDecl();
                parameter.slot = i;
                method.parameters.add(parameter);
                more = skip(Reader.COMMA);
            }
            method.locals = method.parameters.size();
            take(Reader.CLOSE);
        }

        private Decl readDecl() {
            int place = in.place;
            Decl decl = new Decl(takeWord(Reader.NAME), place);
            take(Reader.COLON);
            readType(decl);
            return decl;
        }

        private void readType(Decl decl) {
            out.types.add(decl);
            if (in.token == Reader.INT_WORD && !decl.behindNew) {
                in.advance();
                return;
            }
            if (in.atCap()) {
                decl.capPlace = in.place;
                decl.cap = in.token - Reader.FIRST_CAP;
                in.advance();
            }
            decl.titlePlace = in.place;
            decl.title = takeWord(Reader.TITLE);
        }

        private Node readBlock(Method method, int depth) {
            Node block = new Node(Node.BLOCK, in.place);
            if (depth > MOST_DEPTH) {
                in.refuse();
                return block;
            }
            take(Reader.OPEN_BLOCK);
            for (int i = 0; i < MOST_TEXT && in.token != Reader.CLOSE_BLOCK && in.refusedAt == NONE; i++) {
                block.addPart(readStep(method, depth));
            }
            block.spot = in.place;
            take(Reader.CLOSE_BLOCK);
            return block;
        }

        private Node readStep(Method method, int depth) {
            switch (in.token) {
                case Reader.VAR: return readVar(method, depth);
                case Reader.IF: return readBranch(Node.IF, method, depth);
                case Reader.WHILE: return readBranch(Node.WHILE, method, depth);
                case Reader.TELL: return readWordStep(Node.TELL, method, depth);
                case Reader.RETURN: return readWordStep(Node.RETURN, method, depth);
                case Reader.GIVE: return readWordStep(Node.GIVE, method, depth);
                default: return readOpenStep(method, depth);
            }
        }

        private Node readVar(Method method, int depth) {
            Node step = new Node(Node.VAR, in.place);
            in.advance();
            if (method.locals >= MOST_LOCALS) {
                in.refuse();
            }
            step.decl = readDecl();
            step.decl.slot = method.locals;
            method.locals++;
            out.vars++;
            take(Reader.BECOMES);
            step.first = readExpression(method, depth + 1);
            take(Reader.SEMICOLON);
            return step;
        }

        private Node readBranch(int what, Method method, int depth) {
            Node step = new Node(what, in.place);
            in.advance();
            step.first = readExpression(method, depth + 1);
            step.second = readBlock(method, depth + 1);
            if (what == Node.IF && skip(Reader.ELSE)) {
                step.third = readBlock(method, depth + 1);
            }
            return step;
        }

        private Node readWordStep(int what, Method method, int depth) {
            Node step = new Node(what, in.place);
            in.advance();
            step.first = readExpression(method, depth + 1);
            take(Reader.SEMICOLON);
            return step;
        }

        private Node readOpenStep(Method method, int depth) {
            int place = in.place;
            Node left = readExpression(method, depth + 1);
            boolean becomes = skip(Reader.BECOMES);
            Node step = new Node(becomes ? Node.BECOMES : Node.ALONE, place);
            step.first = left;
            if (becomes) {
                step.second = readExpression(method, depth + 1);
            }
            take(Reader.SEMICOLON);
            return step;
        }

        private Node readExpression(Method method, int depth) {
            if (depth > MOST_DEPTH) {
                in.refuse();
                return new Node(Node.NUMBER, in.place);
            }
            Node left = readTerm(method, depth);
            for (int i = 0; i < MOST_TEXT && in.atOperator(); i++) {
                Node whole = linkBehind(Node.OPERATOR, left);
                whole.number = in.token;
                in.advance();
                whole.first = readTerm(method, depth);
                left = whole;
            }
            return left;
        }

        private Node readTerm(Method method, int depth) {
            Node left = readPrimary(method, depth);
            for (int i = 0; i < MOST_TEXT && (in.token == Reader.DOT || in.token == Reader.BANG); i++) {
                boolean isMessage = in.token == Reader.BANG;
                in.advance();
                int spot = in.place;
                String name = takeWord(Reader.NAME);
                boolean isField = !isMessage && in.token != Reader.OPEN;
                left = linkBehind(isMessage ? Node.MESSAGE : isField ? Node.FIELD : Node.CALL, left);
                left.name = name;
                left.spot = spot;
                if (!isField) {
                    readArguments(left, method, depth);
                }
            }
            return left;
        }

        /** A chain is linked both ways, so that a long one can be walked without recursion. */
        private Node linkBehind(int what, Node ahead) {
            Node link = new Node(what, ahead.place);
            link.ahead = ahead;
            ahead.behind = link;
            out.parts++;
            return link;
        }

        private void readArguments(Node node, Method method, int depth) {
            take(Reader.OPEN);
            boolean more = in.token != Reader.CLOSE;
            for (int i = 0; more && i <= MOST_PARAMETERS; i++) {
                if (i == MOST_PARAMETERS) {
                    in.refuse();
                }
                node.addPart(readExpression(method, depth + 1));
                more = skip(Reader.COMMA);
            }
            take(Reader.CLOSE);
        }

        private Node readPrimary(Method method, int depth) {
            if (in.token == Reader.OPEN) {
                in.advance();
                Node inner = readExpression(method, depth + 1);
                take(Reader.CLOSE);
                return inner;
            }
            out.parts++;
            switch (in.token) {
                case Reader.NUMBER: return readNumber();
                case Reader.NONE_WORD: return readWord(Node.NONE_WORD);
                case Reader.THIS: return readWord(Node.THIS);
                case Reader.NAME: return readName();
                case Reader.CONSUME: return readConsume();
                case Reader.HAS: return readHas(method, depth);
                case Reader.SWAP: return readSwap(method, depth);
                case Reader.NEW: return readNew(method, depth);
                case Reader.RECOVER: return readRecover(method, depth);
                default:
                    in.refuse();
                    return new Node(Node.NUMBER, in.place);
            }
        }

        private Node readNumber() {
            Node node = new Node(Node.NUMBER, in.place);
            node.number = in.number();
            in.advance();
            return node;
        }

        private Node readWord(int what) {
            Node node = new Node(what, in.place);
            in.advance();
            return node;
        }

        private Node readName() {
            Node node = new Node(Node.NAME, in.place);
            node.name = takeWord(Reader.NAME);
            return node;
        }

        private Node readConsume() {
            Node node = readWord(Node.CONSUME);
            node.spot = in.place;
            node.name = takeWord(Reader.NAME);
            return node;
        }

        private Node readHas(Method method, int depth) {
            Node node = readWord(Node.HAS);
            take(Reader.OPEN);
            node.first = readExpression(method, depth + 1);
            take(Reader.CLOSE);
            return node;
        }

        private Node readSwap(Method method, int depth) {
            Node node = readWord(Node.SWAP);
            take(Reader.OPEN);
            node.first = readExpression(method, depth + 1);
            take(Reader.COMMA);
            node.second = readExpression(method, depth + 1);
            take(Reader.CLOSE);
            return node;
        }

        private Node readNew(Method method, int depth) {
            Node node = readWord(Node.NEW);
            node.decl = new Decl("", in.place);
            node.decl.behindNew = true;
            readType(node.decl);
            node.spot = node.decl.titlePlace;
            readArguments(node, method, depth);
            return node;
        }

        private Node readRecover(Method method, int depth) {
            Node node = readWord(Node.RECOVER);
            node.first = readBlock(method, depth + 1);
            return node;
        }

        private boolean skip(int token) {
            if (in.token != token) {
                return false;
            }
            in.advance();
            return true;
        }

        private void take(int token) {
            if (in.token == token) {
                in.advance();
            } else {
                in.refuse();
            }
        }

        private String takeWord(int token) {
            if (in.token != token) {
                in.refuse();
                return "";
            }
            String word = in.word();
            in.advance();
            return word;
        }

        private int takeCap() {
            if (!in.atCap()) {
                in.refuse();
                return REF;
            }
            int cap = in.token - Reader.FIRST_CAP;
            in.advance();
            return cap;
        }
    }

    /** A program: its kinds, the code of its bodies, and its fault while it is built. */
    private static final class Program {
        final int length;
        final List<Kind> kinds;
        final List<Method> methods;
        final List<Decl> types;
        int parts;
        int vars;
        Kind main;
        int faultNumber;
        int faultPlace;
        private int[] codes;
        private int[] operands;
        int size;

        Program(int length) {
            this.length = length;
            kinds = new ArrayList<>();
            methods = new ArrayList<>();
            types = new ArrayList<>();
            parts = 0;
            vars = 0;
            main = null;
            faultNumber = 0;
            faultPlace = NONE;
            codes = new int[64];
            operands = new int[64];
            size = 0;
        }

        /** Of faults that are noted the one with the least place stays. */
        void note(int number, int place) {
            boolean ahead = place < faultPlace || place == faultPlace && number < faultNumber;
            if (faultNumber == 0 || ahead) {
                faultNumber = number;
                faultPlace = place;
            }
        }

        int countFields() {
            int count = 0;
            for (int i = 0; i < kinds.size(); i++) {
                count += kinds.get(i).fields.size();
            }
            return count;
        }

        int cellsOf(Kind kind) {
            return kind == null ? 0 : kind.fields.size() + 1;
        }

        Kind kind(int number) {
            return number < 0 || number >= kinds.size() ? null : kinds.get(number);
        }

        Method method(int number) {
            return number < 0 || number >= methods.size() ? null : methods.get(number);
        }

        void declare() {
            for (int i = 0; i < types.size(); i++) {
                declareType(types.get(i));
            }
            for (int i = 0; i < kinds.size(); i++) {
                Kind kind = kinds.get(i);
                if (findKind(kind.title) != kind) {
                    note(2, kind.place);
                }
                noteRepeated(kind.fields);
                noteRepeatedMethods(kind);
            }
            for (int i = 0; i < methods.size(); i++) {
                declareMethod(methods.get(i));
            }
            main = findKind("Main");
            if (main == null || !main.isActor || main.maker == null || !main.maker.parameters.isEmpty()) {
                note(3, length);
            }
        }

        private Kind findKind(String title) {
            for (int i = 0; i < kinds.size(); i++) {
                if (kinds.get(i).title.equals(title)) {
                    return kinds.get(i);
                }
            }
            return null;
        }

        private void declareType(Decl decl) {
            if (decl.title == null) {
                decl.type = INT;
                return;
            }
            Kind kind = findKind(decl.title);
            if (kind == null) {
                note(3, decl.titlePlace);
            } else if (kind.isActor && decl.cap != NONE) {
                note(4, decl.capPlace);
            } else if (kind.isActor) {
                decl.type = typeOf(ACTOR, kind.number, REF);
            } else if (decl.cap != NONE) {
                decl.type = typeOf(OBJECT, kind.number, decl.cap);
            } else if (decl.behindNew) {
                decl.type = typeOf(OBJECT, kind.number, REF);
            } else {
                note(4, decl.titlePlace);
            }
        }

        private void noteRepeated(List<Decl> list) {
            for (int i = 0; i < list.size(); i++) {
                for (int k = 0; k < i; k++) {
                    if (list.get(k).name.equals(list.get(i).name)) {
                        note(2, list.get(i).place);
                    }
                }
            }
        }

        private void noteRepeatedMethods(Kind kind) {
            for (int i = 0; i < kind.methods.size(); i++) {
                Method method = kind.methods.get(i);
                if (kind.findMethod(method.name, method.sort) != method) {
                    note(2, method.place);
                }
            }
        }

        private void declareMethod(Method method) {
            noteRepeated(method.parameters);
            boolean ofActor = method.owner.isActor;
            if (ofActor && method.sort == Method.FUN && method.cap != REF) {
                note(4, method.capPlace);
            }
            for (int i = 0; i < method.parameters.size(); i++) {
                Decl parameter = method.parameters.get(i);
                if (!sendable(parameter.type)) {
                    method.takesSendable = false;
                    if (ofActor && method.sort != Method.FUN && parameter.type != NOTHING) {
                        note(4, parameter.place);
                    }
                }
            }
            method.isHarmless = method.takesSendable && (method.result == null || sendable(method.result.type));
        }

        int emit(int code, int operand) {
            if (size >= codes.length) {
                codes = Arrays.copyOf(codes, size * 2);
                operands = Arrays.copyOf(operands, size * 2);
            }
            codes[size] = code;
            operands[size] = operand;
            size++;
            return size - 1;
        }

        /** A jump ahead is emitted before its aim is known. */
        void aimHere(int at) {
            if (at >= 0 && at < size) {
                operands[at] = size;
            }
        }

        int code(int at) {
            return at < 0 || at >= size ? World.FINISH : codes[at];
        }

        int operand(int at) {
            return at < 0 || at >= size ? 0 : operands[at];
        }

        /** Jumps are no instructions; every loop has one, so a row of jumps is short. */
        int passJumps(int from) {
            int at = from;
            for (int i = 0; i < size && code(at) == World.JUMP; i++) {
                at = operand(at);
            }
            return at;
        }
    }

    /**
     * Checks the rights of all bodies. Things are checked in the order in which they are done, so
     * the code is emitted in the same walk.
     */
    private static final class Checker {
        private static final int PLAIN = 0;

        private final Program out;
        private final Decl[] scope;
        private Method method;
        private int seen;
        private int gone;
        private int outside;
        private boolean recovering;

        Checker(Program out) {
            this.out = out;
            scope = new Decl[MOST_LOCALS];
            method = null;
            seen = 0;
            gone = 0;
            outside = 0;
            recovering = false;
        }

        void checkAll() {
            for (int i = 0; i < out.methods.size() && out.faultNumber == 0; i++) {
                checkBody(out.methods.get(i));
            }
        }

        private void checkBody(Method checked) {
            method = checked;
            seen = 0;
            gone = 0;
            for (int i = 0; i < method.parameters.size(); i++) {
                makeSeen(method.parameters.get(i));
            }
            method.entry = out.size;
            checkBlock(method.body, method.result == null ? PLAIN : Node.RETURN);
            if (method.result == null) {
                boolean givesThis = method.sort == Method.MAKER && !method.owner.isActor;
                out.emit(World.FINISH, givesThis ? 1 : 0);
            }
        }

        /** Of a body the first fault that is met counts, wherever it lies. */
        private void refuse(int number, int place) {
            if (out.faultNumber == 0) {
                out.faultNumber = number;
                out.faultPlace = place;
            }
        }

        private void makeSeen(Decl decl) {
            if (seen < scope.length) {
                scope[seen] = decl;
                seen++;
            }
        }

        /** Where in the scope the name stands; NONE if it can't be seen. */
        private int find(String name) {
            for (int i = 0; i < seen; i++) {
                if (scope[i].name.equals(name)) {
                    return i;
                }
            }
            return NONE;
        }

        private boolean isGone(Decl decl) {
            return (gone >> decl.slot & 1) != 0;
        }

        /** Checks a block whose last step must be of the given sort (PLAIN: of any other); what it gives. */
        private int checkBlock(Node block, int last) {
            if (block == null) {
                return NOTHING;
            }
            int before = seen;
            int given = NOTHING;
            int count = block.countParts();
            for (int i = 0; i < count && out.faultNumber == 0; i++) {
                given = checkStep(block.part(i), i == count - 1 ? last : PLAIN);
            }
            Node closing = block.part(count - 1);
            if (last != PLAIN && (closing == null || closing.what != last)) {
                refuse(8, block.spot);
            }
            seen = before;
            return given;
        }

        private int checkStep(Node node, int last) {
            switch (node.what) {
                case Node.VAR:
                    checkVar(node);
                    return NOTHING;
                case Node.IF:
                    checkIf(node);
                    return NOTHING;
                case Node.WHILE:
                    checkWhile(node);
                    return NOTHING;
                case Node.TELL:
                    checkInt(node.first);
                    out.emit(World.TELL, 0);
                    return NOTHING;
                case Node.BECOMES:
                    checkPut(node.first, node.second, false);
                    return NOTHING;
                case Node.ALONE:
                    checkExpression(node.first);
                    out.emit(World.DROP, 0);
                    return NOTHING;
                default:
                    return checkClosing(node, last);
            }
        }

        private int checkClosing(Node node, int last) {
            if (node.what != last) {
                refuse(8, node.place);
                return NOTHING;
            }
            int type = checkValue(node.first);
            if (node.what == Node.RETURN && method.result != null) {
                checkFit(node.first, type, method.result.type);
                out.emit(World.RETURN, 0);
            } else {
                out.emit(World.GIVE, 0);
            }
            return type;
        }

        private void checkVar(Node node) {
            int type = checkValue(node.first);
            if (find(node.decl.name) != NONE) {
                refuse(2, node.decl.place);
            }
            checkFit(node.first, type, node.decl.type);
            out.emit(World.SET_NAME, node.decl.slot);
            makeSeen(node.decl);
        }

        private void checkIf(Node node) {
            checkInt(node.first);
            int test = out.emit(World.TEST, 0);
            int goneBehindTest = gone;
            checkBlock(node.second, PLAIN);
            if (node.third == null) {
                gone |= goneBehindTest;
                out.aimHere(test);
                return;
            }
            int goneBehindBlock = gone;
            int jump = out.emit(World.JUMP, 0);
            out.aimHere(test);
            gone = goneBehindTest;
            checkBlock(node.third, PLAIN);
            gone |= goneBehindBlock;
            out.aimHere(jump);
        }

        private void checkWhile(Node node) {
            int goneAhead = gone;
            int begin = out.size;
            checkInt(node.first);
            int test = out.emit(World.TEST, 0);
            int goneBehindTest = gone;
            checkBlock(node.second, PLAIN);
            if ((seenSlots() & gone & ~goneAhead) != 0) {
                refuse(7, node.place);
            }
            out.emit(World.JUMP, begin);
            out.aimHere(test);
            gone = goneBehindTest;
        }

        private int seenSlots() {
            int slots = 0;
            for (int i = 0; i < seen; i++) {
                slots |= 1 << scope[i].slot;
            }
            return slots;
        }

        private void checkInt(Node node) {
            requireInt(node, checkExpression(node));
        }

        private void requireInt(Node node, int type) {
            if (sortOf(type) != INT) {
                refuse(sortOf(type) == NOTHING ? 8 : 5, node.place);
            }
        }

        private int checkValue(Node node) {
            int type = checkExpression(node);
            if (sortOf(type) == NOTHING) {
                refuse(8, node.place);
            }
            if (sortOf(type) == OWN) {
                return typeOf(ACTOR, kindOf(type), REF);
            }
            if (sortOf(type) == OBJECT && node.isPlace()) {
                if (capOf(type) == ISO) {
                    refuse(6, node.place);
                } else if (capOf(type) == TRN) {
                    return typeOf(OBJECT, kindOf(type), BOX);
                }
            }
            return type;
        }

        private void checkFit(Node node, int type, int wanted) {
            int sort = sortOf(type);
            int wantedSort = sortOf(wanted);
            if (sort == EMPTY) {
                if (wantedSort != OBJECT && wantedSort != ACTOR) {
                    refuse(5, node.place);
                }
            } else if (sort != wantedSort || sort != INT && kindOf(type) != kindOf(wanted)) {
                refuse(5, node.place);
            } else if (sort == OBJECT && look(AS_GOOD, capOf(type), capOf(wanted)) != 1) {
                refuse(6, node.place);
            }
        }

        /**
         * Walks a chain from its end to its head, for the arguments that come first, and back, for
         * what is done behind the head; so a long chain needs no depth.
         */
        private int checkExpression(Node last) {
            Node node = last;
            while (node.ahead != null) {
                if (node.what == Node.CALL || node.what == Node.MESSAGE) {
                    checkArguments(node);
                }
                node = node.ahead;
            }
            int type = checkPrimary(node);
            while (node != last && node.behind != null) {
                node = node.behind;
                type = checkLink(node, type);
            }
            return type;
        }

        private void checkArguments(Node node) {
            for (int i = 0; i < node.countParts(); i++) {
                Node argument = node.part(i);
                argument.type = checkValue(argument);
            }
        }

        private int checkLink(Node node, int type) {
            switch (node.what) {
                case Node.FIELD: return checkField(node, type);
                case Node.CALL: return checkCall(node, type);
                case Node.MESSAGE: return checkMessage(node, type);
                default: return checkOperator(node, type);
            }
        }

        private int checkPrimary(Node node) {
            switch (node.what) {
                case Node.NUMBER:
                    out.emit(World.PUSH, node.number);
                    return INT;
                case Node.NONE_WORD:
                    out.emit(World.PUSH, 0);
                    return EMPTY;
                case Node.THIS: return checkThis(node);
                case Node.NAME: return checkName(node);
                case Node.CONSUME: return checkConsume(node);
                case Node.HAS: return checkHas(node);
                case Node.SWAP: return checkPut(node.first, node.second, true);
                case Node.NEW: return checkNew(node);
                default: return checkRecover(node);
            }
        }

        private int checkThis(Node node) {
            out.emit(World.THIS, 0);
            int kind = method.owner.number;
            if (method.owner.isActor) {
                return typeOf(recovering ? ACTOR : OWN, kind, REF);
            }
            if (recovering && method.cap != VAL) {
                refuse(6, node.place);
            }
            return typeOf(OBJECT, kind, method.cap);
        }

        private int checkName(Node node) {
            int at = findUsable(node);
            if (at == NONE) {
                return EMPTY;
            }
            Decl decl = scope[at];
            if (at < outside && !usableFromOutside(decl.type)) {
                refuse(6, node.spot);
            }
            out.emit(World.LOAD, decl.slot);
            return decl.type;
        }

        private int checkConsume(Node node) {
            int at = findUsable(node);
            if (at == NONE) {
                return EMPTY;
            }
            Decl decl = scope[at];
            boolean isIso = sortOf(decl.type) == OBJECT && capOf(decl.type) == ISO;
            if (at < outside && !isIso && !usableFromOutside(decl.type)) {
                refuse(6, node.spot);
            }
            gone |= 1 << decl.slot;
            out.emit(World.LOAD, decl.slot);
            return decl.type;
        }

        /** Where the NAME stands that is used; NONE if it can't be seen or is GONE. */
        private int findUsable(Node node) {
            int at = find(node.name);
            if (at == NONE) {
                refuse(3, node.spot);
                return NONE;
            }
            if (isGone(scope[at])) {
                refuse(7, node.spot);
                return NONE;
            }
            return at;
        }

        private boolean usableFromOutside(int type) {
            return sortOf(type) != OBJECT || capOf(type) == VAL;
        }

        private int checkHas(Node node) {
            int type = checkExpression(node.first);
            if (sortOf(type) == NOTHING || sortOf(type) == INT) {
                refuse(sortOf(type) == NOTHING ? 8 : 5, node.first.place);
            }
            out.emit(World.HAS, 0);
            return INT;
        }

        private int checkOperator(Node node, int type) {
            int right = checkExpression(node.first);
            requireInt(node.ahead, type);
            requireInt(node.first, right);
            out.emit(World.OPERATE, node.number);
            return INT;
        }

        private int checkRecover(Node node) {
            int outsideBefore = outside;
            boolean recoveringBefore = recovering;
            outside = seen;
            recovering = true;
            int given = checkBlock(node.first, Node.GIVE);
            outside = outsideBefore;
            recovering = recoveringBefore;
            if (sortOf(given) != OBJECT) {
                return given;
            }
            boolean writable = capOf(given) != VAL && capOf(given) != BOX;
            return typeOf(OBJECT, kindOf(given), writable ? ISO : VAL);
        }

        private int checkField(Node node, int type) {
            Decl field = findField(node, type);
            if (field == null) {
                return EMPTY;
            }
            int given = behindCap(SEEN, capOf(type), field.type);
            if (given == NONE) {
                refuse(6, node.spot);
                return EMPTY;
            }
            out.emit(World.FIELD, slotBehind(type, field));
            return given;
        }

        private Decl findField(Node node, int type) {
            Kind kind = checkOwner(node.ahead, type);
            if (kind == null) {
                return null;
            }
            Decl field = kind.findField(node.name);
            if (field == null) {
                refuse(3, node.spot);
            }
            return field;
        }

        /** The kind whose fields and funs can be used on what is ahead of a dot; null if there is none. */
        private Kind checkOwner(Node ahead, int type) {
            if (sortOf(type) != OBJECT && sortOf(type) != OWN) {
                refuse(sortOf(type) == NOTHING ? 8 : 5, ahead.place);
                return null;
            }
            return out.kind(kindOf(type));
        }

        /** An actor's own cells are found otherwise than an object's, so the operand tells which. */
        private int slotBehind(int type, Decl field) {
            return field.slot * 2 + (sortOf(type) == OWN ? 1 : 0);
        }

        private int checkCall(Node node, int type) {
            Kind kind = checkOwner(node.ahead, type);
            if (kind == null) {
                return EMPTY;
            }
            Method called = kind.findMethod(node.name, Method.FUN);
            if (called == null) {
                refuse(3, node.spot);
                return EMPTY;
            }
            checkArgumentsFit(node, called);
            if (sortOf(type) == OBJECT && !canBeCalledOn(called, node.ahead, capOf(type))) {
                refuse(6, node.ahead.place);
            }
            out.emit(World.CALL, called.number);
            return called.result == null ? NOTHING : called.result.type;
        }

        private boolean canBeCalledOn(Method called, Node ahead, int cap) {
            if (ahead.isPlace() && cap == TRN) {
                return called.cap == BOX || called.cap == REF && called.isHarmless;
            }
            if (ahead.isPlace() && cap == ISO) {
                return (called.cap == REF || called.cap == BOX) && called.isHarmless;
            }
            return look(AS_GOOD, cap, called.cap) == 1;
        }

        private void checkArgumentsFit(Node node, Method called) {
            if (node.countParts() != called.parameters.size()) {
                refuse(8, node.spot);
                return;
            }
            for (int i = 0; i < node.countParts(); i++) {
                Node argument = node.part(i);
                checkFit(argument, argument.type, called.parameters.get(i).type);
            }
        }

        private int checkMessage(Node node, int type) {
            if (sortOf(type) != ACTOR && sortOf(type) != OWN) {
                refuse(sortOf(type) == NOTHING ? 8 : 5, node.ahead.place);
                return NOTHING;
            }
            Kind kind = out.kind(kindOf(type));
            Method sent = kind == null ? null : kind.findMethod(node.name, Method.BE);
            if (sent == null) {
                refuse(3, node.spot);
                return NOTHING;
            }
            checkArgumentsFit(node, sent);
            out.emit(World.SEND, sent.number);
            return NOTHING;
        }

        private int checkNew(Node node) {
            checkArguments(node);
            int type = node.decl.type;
            Kind kind = out.kind(kindOf(type));
            if (kind == null || kind.maker == null) {
                return type;
            }
            checkArgumentsFit(node, kind.maker);
            if (sortOf(type) == OBJECT && isClosed(capOf(type)) && !kind.maker.takesSendable) {
                refuse(6, node.place);
            }
            out.emit(kind.isActor ? World.NEW_ACTOR : World.NEW_OBJECT, kind.maker.number);
            return type;
        }

        private boolean isClosed(int cap) {
            return cap == ISO || cap == TRN || cap == VAL;
        }

        private int checkPut(Node target, Node source, boolean swapping) {
            int type = checkValue(source);
            if (target.what == Node.NAME) {
                return checkPutName(target, source, type, swapping);
            }
            if (target.what == Node.FIELD) {
                return checkPutField(target, source, type, swapping);
            }
            refuse(8, target.place);
            return EMPTY;
        }

        private int checkPutName(Node target, Node source, int type, boolean swapping) {
            int at = swapping ? findUsable(target) : find(target.name);
            if (at == NONE) {
                refuse(3, target.spot);
                return EMPTY;
            }
            Decl decl = scope[at];
            if (at < outside) {
                refuse(6, target.spot);
            }
            checkFit(source, type, decl.type);
            gone &= ~(1 << decl.slot);
            out.emit(swapping ? World.SWAP_NAME : World.SET_NAME, decl.slot);
            return decl.type;
        }

        private int checkPutField(Node target, Node source, int type, boolean swapping) {
            int aheadType = checkExpression(target.ahead);
            Decl field = findField(target, aheadType);
            if (field == null) {
                return EMPTY;
            }
            int cap = capOf(aheadType);
            if (cap == VAL || cap == BOX) {
                refuse(6, target.spot);
            }
            checkFit(source, type, field.type);
            if (sortOf(type) == OBJECT && look(SAFE, cap, capOf(type)) != 1) {
                refuse(6, source.place);
            }
            out.emit(swapping ? World.SWAP_FIELD : World.SET_FIELD, slotBehind(aheadType, field));
            int given = behindCap(SWAPPED, cap, field.type);
            if (given == NONE) {
                if (swapping) {
                    refuse(6, target.spot);
                }
                return EMPTY;
            }
            return given;
        }
    }

    /** What runs: the cells, the actors and the counts. Its rows are made once and used by every start. */
    private static final class World {
        static final int PUSH = 0;
        static final int THIS = 1;
        static final int LOAD = 2;
        static final int FIELD = 3;
        static final int CALL = 4;
        static final int SEND = 5;
        static final int NEW_OBJECT = 6;
        static final int NEW_ACTOR = 7;
        static final int HAS = 8;
        static final int SWAP_NAME = 9;
        static final int SWAP_FIELD = 10;
        static final int SET_NAME = 11;
        static final int SET_FIELD = 12;
        static final int OPERATE = 13;
        static final int TELL = 14;
        static final int RETURN = 15;
        static final int GIVE = 16;
        static final int DROP = 17;
        static final int TEST = 18;
        static final int FINISH = 19;
        static final int JUMP = 20;

        private static final int NO_REFERENCE = 1;
        private static final int NO_CELLS = 2;
        private static final int NO_BODY = 3;
        private static final int NO_ACTOR = 4;

        private final int[] cells;
        private final int[] starts;
        private final Actor[] actors;
        final int[] numbersTold;
        final int[] tellers;
        private int mostCells;
        private int mostMessages;
        Program code;
        int actorCount;
        int objects;
        int taken;
        int instructions;
        int tellings;
        int messages;
        int fulls;
        int fails;

        World() {
            cells = new int[MOST_CELLS];
            starts = new int[MOST_CELLS + 1];
            actors = new Actor[MOST_ACTORS];
            numbersTold = new int[MOST_TOLD];
            tellers = new int[MOST_TOLD];
            code = null;
        }

        void stop() {
            code = null;
            actorCount = 0;
            objects = 0;
            taken = 0;
            instructions = 0;
            tellings = 0;
            messages = 0;
            fulls = 0;
            fails = 0;
        }

        void begin(Program program, int cellLimit, int mailbox) {
            stop();
            code = program;
            mostCells = cellLimit;
            mostMessages = mailbox;
            if (program.main != null) {
                int start = takeCells(program.main);
                Actor first = addActor(program.main, start);
                deliver(first, program.main.maker, first);
            }
        }

        Actor find(int number) {
            return number < 0 || number >= actorCount ? null : actors[number];
        }

        int cell(int at) {
            return at < 0 || at >= cells.length ? 0 : cells[at];
        }

        /** Where an object's fields begin. */
        int fieldsOf(int object) {
            return object < 0 || object >= starts.length ? 0 : starts[object] + 1;
        }

        /** Does one instruction of an actor; false if it has none to do. */
        boolean instruct(Actor doer) {
            if (code == null || doer.bodies == 0 && doer.waiting == 0) {
                return false;
            }
            instructions++;
            doer.instructions++;
            if (doer.bodies == 0) {
                Method method = code.method(doer.firstMethod());
                if (method != null) {
                    doer.takeMessage(method);
                }
                return true;
            }
            int at = code.passJumps(doer.next());
            doer.goTo(at + 1);
            execute(doer, at);
            return true;
        }

        private void execute(Actor doer, int at) {
            int operand = code.operand(at);
            switch (code.code(at)) {
                case PUSH: doer.push(operand); break;
                case THIS: doer.push(doer.self()); break;
                case LOAD: doer.push(doer.local(operand)); break;
                case HAS: doer.push(doer.pop() == 0 ? 0 : 1); break;
                case SET_NAME: doer.setLocal(operand, doer.pop()); break;
                case SWAP_NAME: swapName(doer, operand); break;
                case OPERATE: operate(doer, operand); break;
                case TELL: tell(doer); break;
                case GIVE: break;
                case DROP: doer.pop(); break;
                case TEST: test(doer, operand); break;
                case RETURN: doer.leave(doer.pop()); break;
                case FINISH: doer.leave(operand == 1 ? doer.self() : 0); break;
                case SEND: send(doer, code.method(operand), at); break;
                case CALL: call(doer, code.method(operand)); break;
                case NEW_OBJECT: newObject(doer, code.method(operand)); break;
                case NEW_ACTOR: newActor(doer, code.method(operand)); break;
                default: useField(doer, code.code(at), operand);
            }
        }

        private void fail(Actor doer, int number) {
            fails++;
            doer.latestFail = number;
            doer.becomeIdle();
        }

        private void swapName(Actor doer, int slot) {
            int old = doer.local(slot);
            doer.setLocal(slot, doer.pop());
            doer.push(old);
        }

        private void operate(Actor doer, int sign) {
            int right = doer.pop();
            int left = doer.pop();
            switch (sign) {
                case Reader.PLUS: doer.push(left + right); break;
                case Reader.MINUS: doer.push(left - right); break;
                case Reader.TIMES: doer.push(left * right); break;
                case Reader.SAME: doer.push(left == right ? 1 : 0); break;
                default: doer.push(left < right ? 1 : 0);
            }
        }

        private void tell(Actor doer) {
            int number = doer.pop();
            if (tellings < MOST_TOLD) {
                numbersTold[tellings] = number;
                tellers[tellings] = doer.number;
            }
            tellings++;
        }

        private void test(Actor doer, int otherwise) {
            if (doer.pop() == 0) {
                doer.goTo(otherwise);
            }
        }

        private void useField(Actor doer, int what, int operand) {
            boolean own = (operand & 1) == 1;
            int owner = doer.pop();
            if (owner == 0) {
                fail(doer, NO_REFERENCE);
                return;
            }
            int at = (own ? doer.start + 1 : fieldsOf(owner)) + (operand >> 1);
            if (at < 0 || at >= cells.length) {
                return;
            }
            if (what == FIELD) {
                doer.push(cells[at]);
                return;
            }
            int old = cells[at];
            cells[at] = doer.pop();
            if (what == SWAP_FIELD) {
                doer.push(old);
            }
        }

        private void call(Actor doer, Method called) {
            int owner = doer.pop();
            if (owner == 0) {
                fail(doer, NO_REFERENCE);
            } else if (doer.bodies >= MOST_BODIES) {
                fail(doer, NO_BODY);
            } else if (called != null) {
                doer.enter(called, owner);
            }
        }

        private void send(Actor doer, Method sent, int at) {
            int receiver = doer.pop();
            if (receiver == 0) {
                fail(doer, NO_REFERENCE);
                return;
            }
            Actor to = find(receiver - 1);
            if (to == null || sent == null) {
                return;
            }
            if (to.waiting >= mostMessages) {
                fulls++;
                doer.push(receiver);
                doer.goTo(at);
                return;
            }
            deliver(to, sent, doer);
            doer.push(0);
        }

        /**
         * The arguments go over as they are: the rights that were checked leave nobody who could
         * change what a message brings, so a copy could not be told from the thing itself.
         */
        private void deliver(Actor to, Method method, Actor from) {
            if (method != null) {
                to.putMessage(method, from);
                messages++;
            }
        }

        private void newObject(Actor doer, Method maker) {
            if (doer.bodies >= MOST_BODIES) {
                fail(doer, NO_BODY);
                return;
            }
            int start = maker == null ? NONE : takeCells(maker.owner);
            if (start == NONE || objects + 1 >= starts.length) {
                fail(doer, NO_CELLS);
                return;
            }
            objects++;
            starts[objects] = start;
            doer.enter(maker, objects);
        }

        private void newActor(Actor doer, Method maker) {
            if (actorCount >= MOST_ACTORS) {
                fail(doer, NO_ACTOR);
                return;
            }
            int start = maker == null ? NONE : takeCells(maker.owner);
            if (start == NONE) {
                fail(doer, NO_CELLS);
                return;
            }
            Actor made = addActor(maker.owner, start);
            deliver(made, maker, doer);
            doer.push(made.number + 1);
        }

        /** Where the cells of a new object or actor begin; NONE if there are too few. */
        private int takeCells(Kind kind) {
            int count = code.cellsOf(kind);
            int start = taken;
            if (count < 1 || count > mostCells - taken || start + count > cells.length) {
                return NONE;
            }
            taken += count;
            // Whose cells they are stands ahead of the fields, for those who write them out.
            cells[start] = kind.number;
            for (int i = start + 1; i < taken; i++) {
                cells[i] = 0;
            }
            return start;
        }

        private Actor addActor(Kind kind, int start) {
            int number = Math.min(actorCount, MOST_ACTORS - 1);
            if (actors[number] == null) {
                actors[number] = new Actor(number);
            }
            actors[number].reset(kind, start);
            actorCount = number + 1;
            return actors[number];
        }
    }

    /**
     * An actor: its bodies, its stack and its mailbox. On the stack none is 0, an object its number,
     * an actor its number and one.
     */
    private static final class Actor {
        private static final int ROW = MOST_PARAMETERS + 1;

        final int number;
        Kind kind;
        int start;
        int bodies;
        int waiting;
        int instructions;
        int latestFail;
        private final int[] nexts;
        private final int[] bases;
        private final int[] selves;
        private final int[] mailbox;
        private int firstRow;
        private int[] stack;
        private int height;

        Actor(int number) {
            this.number = number;
            nexts = new int[MOST_BODIES];
            bases = new int[MOST_BODIES];
            selves = new int[MOST_BODIES];
            mailbox = new int[MOST_MESSAGES * ROW];
            stack = new int[64];
        }

        void reset(Kind newKind, int newStart) {
            kind = newKind;
            start = newStart;
            waiting = 0;
            instructions = 0;
            latestFail = 0;
            firstRow = 0;
            becomeIdle();
        }

        void becomeIdle() {
            bodies = 0;
            height = 0;
        }

        void push(int value) {
            if (height >= stack.length) {
                stack = Arrays.copyOf(stack, stack.length * 2);
            }
            stack[height] = value;
            height++;
        }

        int pop() {
            if (height <= 0) {
                return 0;
            }
            height--;
            return stack[height];
        }

        private int top() {
            return Math.max(0, Math.min(bodies, MOST_BODIES) - 1);
        }

        int next() {
            return nexts[top()];
        }

        void goTo(int at) {
            nexts[top()] = at;
        }

        int self() {
            return selves[top()];
        }

        int local(int slot) {
            int at = bases[top()] + slot;
            return at < 0 || at >= stack.length ? 0 : stack[at];
        }

        void setLocal(int slot, int value) {
            int at = bases[top()] + slot;
            if (at >= 0 && at < stack.length) {
                stack[at] = value;
            }
        }

        /** Begins a body whose arguments lie on the stack: they become its first locals. */
        void enter(Method method, int self) {
            if (bodies >= MOST_BODIES) {
                return;
            }
            int base = Math.max(0, height - method.parameters.size());
            for (int i = method.parameters.size(); i < method.locals; i++) {
                push(0);
            }
            bodies++;
            nexts[top()] = method.entry;
            bases[top()] = base;
            selves[top()] = self;
        }

        void leave(int given) {
            height = bases[top()];
            bodies = Math.max(0, bodies - 1);
            if (bodies == 0) {
                height = 0;
            } else {
                push(given);
            }
        }

        /** Takes a message's arguments from the sender's stack. */
        void putMessage(Method method, Actor from) {
            int row = rowOf(waiting);
            mailbox[row] = method.number;
            for (int i = Math.min(method.parameters.size(), MOST_PARAMETERS); i > 0; i--) {
                mailbox[row + i] = from.pop();
            }
            waiting = Math.min(waiting + 1, MOST_MESSAGES);
        }

        int firstMethod() {
            return messageMethod(0);
        }

        int messageMethod(int k) {
            return mailbox[rowOf(k)];
        }

        int messageArgument(int k, int i) {
            return i < 0 || i >= MOST_PARAMETERS ? 0 : mailbox[rowOf(k) + 1 + i];
        }

        private int rowOf(int k) {
            return Math.floorMod(firstRow + k, MOST_MESSAGES) * ROW;
        }

        void takeMessage(Method method) {
            for (int i = 0; i < method.parameters.size(); i++) {
                push(messageArgument(0, i));
            }
            enter(method, number + 1);
            firstRow = Math.floorMod(firstRow + 1, MOST_MESSAGES);
            waiting = Math.max(0, waiting - 1);
        }
    }

    /** What show and peek wrote. */
    private static final class Output {
        private final StringBuilder written;
        private final int[] stamps;
        private final int[] open;
        private final int[] nextField;
        private int count;
        private int stamp;
        private int depth;

        Output() {
            written = new StringBuilder();
            stamps = new int[MOST_CELLS + 1];
            open = new int[MOST_CELLS + 1];
            nextField = new int[MOST_CELLS + 1];
            count = 0;
            stamp = 0;
            depth = 0;
        }

        void clear() {
            written.setLength(0);
            count = 0;
            stamp++;
        }

        /** How many characters were written, those that are not kept among them. */
        int length() {
            return count;
        }

        int at(int k) {
            return k < 0 || k >= written.length() ? 0 : written.charAt(k);
        }

        private void put(char c) {
            if (count < MOST_OUTPUT) {
                written.append(c);
            }
            count++;
        }

        private void putAll(String text) {
            for (int i = 0; i < text.length(); i++) {
                put(text.charAt(i));
            }
        }

        void writeField(World world, Actor actor, int f) {
            if (world.code != null && f >= 0 && f < actor.kind.fields.size()) {
                writeValue(world, actor.kind.fields.get(f).type, world.cell(actor.start + 1 + f));
            }
        }

        void writeMessage(World world, Actor actor, int k) {
            Method method = world.code == null ? null : world.code.method(actor.messageMethod(k));
            if (method == null) {
                return;
            }
            putAll(method.name);
            put('(');
            for (int i = 0; i < method.parameters.size(); i++) {
                if (i > 0) {
                    put(',');
                }
                writeValue(world, method.parameters.get(i).type, actor.messageArgument(k, i));
            }
            put(')');
        }

        /** Objects may lie deep in one another, so those that are open stand in rows, not in calls. */
        private void writeValue(World world, int type, int value) {
            depth = 0;
            writeHead(world, type, value);
            for (int i = 0; i < 2 * MOST_CELLS && depth > 0; i++) {
                int object = open[depth - 1];
                int f = nextField[depth - 1];
                Kind kind = world.code.kind(world.cell(world.fieldsOf(object) - 1));
                if (kind == null || f >= kind.fields.size()) {
                    put('}');
                    depth--;
                } else {
                    nextField[depth - 1] = f + 1;
                    if (f > 0) {
                        put(',');
                    }
                    Decl field = kind.fields.get(f);
                    putAll(field.name);
                    put(':');
                    writeHead(world, field.type, world.cell(world.fieldsOf(object) + f));
                }
            }
        }

        /** Writes a value, and opens it if it is an object that was not written yet. */
        private void writeHead(World world, int type, int value) {
            Kind kind = world.code.kind(kindOf(type));
            if (sortOf(type) == INT) {
                writeNumber(value);
            } else if (value == 0 || kind == null) {
                putAll("none");
            } else {
                putAll(kind.title);
                put(sortOf(type) == ACTOR ? '@' : '#');
                writeNumber(sortOf(type) == ACTOR ? value - 1 : value);
                if (sortOf(type) == OBJECT) {
                    openObject(value);
                }
            }
        }

        /** Digit by digit, so that writing makes no objects. */
        private void writeNumber(int value) {
            long rest = value;
            if (rest < 0) {
                put('-');
                rest = -rest;
            }
            long unit = 1;
            for (int digits = 1; digits < 10 && unit <= rest / 10; digits++) {
                unit *= 10;
            }
            for (; unit > 0; unit /= 10) {
                put((char) ('0' + rest / unit % 10));
            }
        }

        private void openObject(int object) {
            if (object < 0 || object >= stamps.length || stamps[object] == stamp || depth >= open.length) {
                return;
            }
            stamps[object] = stamp;
            put('{');
            open[depth] = object;
            nextField[depth] = 0;
            depth++;
        }
    }
}
