/** The bounds of what is told and written, and of what is asked, sentence by sentence: promises 6 and 12 to 15. */
public final class AnswerBoundsTest {
    private static final Checks CHECKS = new Checks();
    private static final int LEAST = Integer.MIN_VALUE;
    private static final int GREATEST = Integer.MAX_VALUE;

    public static void main(String[] args) {
        programNumbers();
        programWithoutOne();
        programCounts();
        toldNumbers();
        toldWhat();
        toldKept();
        toldAtBounds();
        toldBehindMore();
        showNumbers();
        showRefused();
        showOfEachActor();
        showKept();
        peekNumbers();
        peekRefused();
        peekOfEachPlace();
        peekKept();
        letterNumbers();
        letterOfNothing();
        letterStays();
        intsWritten();
        noneWritten();
        actorsWritten();
        objectsWritten();
        firstInEach();
        eightFields();
        greatNumbers();
        copies();
        copiesOnce();
        actorsAreThemselves();
        CHECKS.finish();
    }

    private static void run(ActorHouse house, int actor, int steps) {
        for (int i = 0; i < steps; i++) {
            house.step(actor, 200);
        }
    }

    private static void programNumbers() {
        CHECKS.sentence("all together (3), vars (4). NONE for another what, or without one.");
        ActorHouse house = CHECKS.built("actor Main{new(){}}");
        for (int what : new int[] {LEAST, -2, -1, 5, 6, GREATEST}) {
            CHECKS.same("program(" + what + ")", house.program(what), -1);
        }
        for (int what = 0; what <= 4; what++) {
            CHECKS.same("program(" + what + ")", house.program(what), what == 0 ? 1 : 0);
        }
        CHECKS.isTrue("start", house.start(1, 1));
        CHECKS.same("program(0) of what runs", house.program(0), 1);
    }

    private static void programWithoutOne() {
        CHECKS.sentence("NONE for another what, or without one.");
        ActorHouse house = new ActorHouse();
        for (int what = -1; what <= 5; what++) {
            CHECKS.same("program(" + what + ") of a new object", house.program(what), -1);
        }
        Checks.write(house, "actor Main{new(){}}");
        CHECKS.same("program(0) ahead of build", house.program(0), -1);
        house.build();
        CHECKS.same("program(0) behind build", house.program(0), 1);
        Checks.write(house, "actor Main{new(){}}");
        CHECKS.same("program(0) of the latest build", house.program(0), 1);
        house.end(0);
        house.build();
        for (int what = -1; what <= 5; what++) {
            CHECKS.same("program(" + what + ") behind a fault", house.program(what), -1);
        }
    }

    private static void programCounts() {
        CHECKS.sentence("how many KINDS (what 0), fields (1), funs and bes (2), PRIMARIES but ( ), fields and calls, messages, operators, all "
            + "together (3), vars (4).");
        String kind = "{var a:int;var b:int;new(){var v:int=1;}fun ref f(){var v:int=((1));}fun ref g(n:int):int{return n;}}";
        StringBuilder text = new StringBuilder("actor Main" + kind);
        for (int count = 1; count <= 8; count++) {
            ActorHouse house = CHECKS.built(text.toString());
            int[] due = {count, 2 * count, 2 * count, 3 * count, 2 * count};
            for (int what = 0; what < 5; what++) {
                CHECKS.same("program(" + what + ") of " + count, house.program(what), due[what]);
            }
            text.append("class K").append(count).append(kind);
        }
        String rest = "class A{var n:int;new(n:int){}fun ref f(n:int):int{return 0;}}actor Main{var a:ref A;var n:int;new(){}be b(n:int,x:iso A){";
        String[] steps = {"1;", "none;", "this;", "n;", "consume x;", "((1));", "has(none);", "swap(n,1);", "new Main();", "new A(1);",
            "recover{give 1;};", "this.n;", "this.a.f(1);", "this!b(1,none);", "1+2;", "1==2;", "1<2-3*4;", "n=1;", "this.n=1;",
            "var y:int=1;", "if 1{}else{}", "while 0{tell 1;}"};
        int[] due = {1, 1, 1, 1, 1, 1, 2, 3, 1, 2, 2, 2, 4, 4, 3, 3, 7, 2, 3, 1, 1, 2};
        for (int i = 0; i < steps.length; i++) {
            CHECKS.same("program(3) of " + steps[i], CHECKS.built(rest + steps[i] + "}}").program(3), 1 + due[i]);
        }
    }

    /** Tells 1, 2, 3 and so on, so many numbers. */
    private static ActorHouse teller(int count) {
        ActorHouse house = CHECKS.started("actor Main{var n:int;new(){new W();while this.n<" + count + "{this.n=this.n+1;tell this.n;}}}"
            + "actor W{new(){tell 0-7;}}", 9, 1);
        run(house, 0, 22);
        CHECKS.same("numbers told", house.world(4), count);
        return house;
    }

    private static void toldNumbers() {
        CHECKS.sentence("0 if there is none such.");
        ActorHouse house = teller(3);
        house.step(1, 200);
        for (int k : new int[] {LEAST, -2, -1, 4, 5, 199, 200, 201, GREATEST}) {
            CHECKS.same("told(" + k + ", 0)", house.told(k, 0), 0);
            CHECKS.same("told(" + k + ", 1)", house.told(k, 1), 0);
        }
        for (int k = 0; k < 3; k++) {
            CHECKS.same("told(" + k + ", 0)", house.told(k, 0), k + 1);
            CHECKS.same("told(" + k + ", 1)", house.told(k, 1), 0);
        }
        CHECKS.same("told(3, 0)", house.told(3, 0), -7);
        CHECKS.same("told(3, 1)", house.told(3, 1), 1);
    }

    private static void toldWhat() {
        CHECKS.sentence("the number (what 0), its actor (1); 0 if there is none such.");
        ActorHouse house = teller(1);
        house.step(1, 200);
        for (int what : new int[] {LEAST, -2, -1, 2, 3, GREATEST}) {
            CHECKS.same("told(0, " + what + ")", house.told(0, what), 0);
            CHECKS.same("told(1, " + what + ")", house.told(1, what), 0);
        }
        CHECKS.same("told(1, 1)", house.told(1, 1), 1);
    }

    private static void toldKept() {
        CHECKS.sentence("Of the k-th number told, from 0 (the first 200 are kept)");
        for (int count = 198; count <= 203; count++) {
            ActorHouse house = teller(count);
            for (int k = 196; k <= 206; k++) {
                boolean kept = k < 200 && k < count;
                CHECKS.same("told(" + k + ", 0) of " + count, house.told(k, 0), kept ? k + 1 : 0);
            }
            CHECKS.same("told(0, 0) of " + count, house.told(0, 0), 1);
            house.step(1, 200);
            CHECKS.same("told behind " + count, house.told(count, 0), count < 200 ? -7 : 0);
            CHECKS.same("its actor", house.told(count, 1), count < 200 ? 1 : 0);
            CHECKS.same("all are counted", house.world(4), count + 1);
        }
    }

    private static void toldAtBounds() {
        CHECKS.sentence("the number (what 0), its actor (1)");
        ActorHouse house = CHECKS.started("actor Main{var n:int;new(){var g:int=999999999+999999999+147483649;tell g;tell g+1;tell 0;tell 0-1;"
            + "while this.n<11{this.n=this.n+1;new W(this.n);}}}actor W{new(n:int){tell n;}}", 40, 1);
        Checks.runAll(house);
        int[] due = {GREATEST, LEAST, 0, -1};
        for (int k = 0; k < 4; k++) {
            CHECKS.same("told(" + k + ", 0)", house.told(k, 0), due[k]);
        }
        int sum = 0;
        for (int k = 4; k < 15; k++) {
            CHECKS.same("told(" + k + ", 1)", house.told(k, 1), house.told(k, 0));
            sum += house.told(k, 1);
        }
        CHECKS.same("actors 1 to 11 told", sum, 66);
    }

    /** What was told ahead of a start or a build is not told any more. */
    private static void toldBehindMore() {
        CHECKS.sentence("nothing told");
        ActorHouse house = teller(201);
        CHECKS.isTrue("start again", house.start(9, 1));
        noneTold(house, 0);
        house.step(0, 20);
        CHECKS.same("numbers told", house.world(4), 1);
        CHECKS.same("told(0, 0)", house.told(0, 0), 1);
        noneTold(house, 1);
        house.build();
        noneTold(house, 0);
    }

    private static void noneTold(ActorHouse house, int from) {
        for (int k = from; k <= 201; k++) {
            CHECKS.same("told(" + k + ", 0)", house.told(k, 0), 0);
            CHECKS.same("told(" + k + ", 1)", house.told(k, 1), 0);
        }
    }

    private static void showNumbers() {
        CHECKS.sentence("NONE, and no output, if there is none such.");
        ActorHouse house = CHECKS.started("actor Main{var a:int;var b:int;new(){new W();new V();this.a=11;this.b=22;}}"
            + "actor W{new(){}}actor V{var c:int;new(){}}", 9, 1);
        for (int actor : new int[] {LEAST, -1, 1, 2, 12, GREATEST}) {
            refused(house, house.show(actor, 0), "show(" + actor + ", 0) of one actor");
        }
        Checks.runAll(house);
        for (int f : new int[] {LEAST, -2, -1, 2, 3, 8, GREATEST}) {
            refused(house, house.show(0, f), "show(0, " + f + ")");
        }
        for (int f : new int[] {LEAST, -1, 0, 1, 2, GREATEST}) {
            refused(house, house.show(1, f), "show(1, " + f + "), no fields");
            refused(house, house.show(3, f), "show(3, " + f + "), no actor");
            refused(house, house.show(-1, f), "show(-1, " + f + "), no actor");
            refused(house, house.show(12, f), "show(12, " + f + "), no actor");
        }
        CHECKS.shows(house, 0, 0, "11");
        CHECKS.shows(house, 0, 1, "22");
        CHECKS.shows(house, 2, 0, "0");
        refused(house, house.show(2, 1), "show(2, 1)");
    }

    /** An answer of NONE left no output; a new one is put there for the next. */
    private static void refused(ActorHouse house, int answer, String what) {
        CHECKS.same(what, answer, -1);
        CHECKS.same("letter(0) behind " + what, house.letter(0), 0);
        CHECKS.isTrue("show(0, 0)", house.show(0, 0) > 0);
        CHECKS.isTrue("letter(0)", house.letter(0) > 0);
    }

    private static void showRefused() {
        CHECKS.sentence("NONE, and no output, if there is none such.");
        ActorHouse house = CHECKS.started("actor Main{var abcdefgh:Main;new(){this.abcdefgh=this;}}", 9, 1);
        Checks.runAll(house);
        CHECKS.shows(house, 0, 0, "Main@0");
        CHECKS.same("show(0, 1)", house.show(0, 1), -1);
        for (int k = 0; k < 8; k++) {
            CHECKS.same("letter(" + k + ")", house.letter(k), 0);
        }
    }

    private static void showOfEachActor() {
        CHECKS.sentence("Field f (from 0) of an actor is WRITTEN to the output: how many characters");
        ActorHouse house = CHECKS.started("actor Main{var k:int;new(){while this.k<11{this.k=this.k+1;new W(this.k);}}}actor W{var a:int;var b:int;"
            + "var c:int;var d:int;var e:int;var f:int;var g:int;var h:int;new(n:int){this.a=n*10+1;this.b=n*10+2;this.c=n*10+3;this.d=n*10+4;"
            + "this.e=n*10+5;this.f=n*10+6;this.g=n*10+7;this.h=n*10+8;}}", 400, 1);
        Checks.runAll(house);
        for (int actor = 1; actor <= 11; actor++) {
            for (int f = 0; f < 8; f++) {
                CHECKS.shows(house, actor, f, String.valueOf(actor * 10 + f + 1));
            }
            CHECKS.same("show(" + actor + ", 8)", house.show(actor, 8), -1);
        }
        CHECKS.shows(house, 0, 0, "11");
    }

    /** How a chain of objects is written; of their numbers the first one differs from the rest. */
    private static String chain(int count, int first, int rest) {
        StringBuilder text = new StringBuilder("none");
        for (int k = 1; k <= count; k++) {
            text.insert(0, "A#" + k + "{abcdefgh:" + (k == count ? first : rest) + ",a:").append("}");
        }
        return text.toString();
    }

    /** A house whose actor 0 has a chain in field 0 that is written with just so many characters, and what is due then. */
    private static ActorHouse chained(int length, String lastStep, StringBuilder due) {
        for (int count = 90; count <= 132; count++) {
            for (int rest = 1; rest <= 100000000; rest *= 10) {
                for (int first = 1; first <= 100000000; first *= 10) {
                    if (chain(count, first, rest).length() == length) {
                        due.append(chain(count, first, rest));
                        return chained(count, first, rest, lastStep);
                    }
                }
            }
        }
        CHECKS.isTrue("a chain of length " + length, false);
        return new ActorHouse();
    }

    private static ActorHouse chained(int count, int first, int rest, String lastStep) {
        ActorHouse house = CHECKS.started("class A{var abcdefgh:int;var a:iso A;new(a:iso A,n:int){this.a=consume a;this.abcdefgh=n;}}"
            + "actor Main{var a:iso A;var k:int;new(){while this.k<" + (count - 1) + "{this.a=new iso A(swap(this.a,none)," + rest + ");"
            + "this.k=this.k+1;}this.a=new iso A(swap(this.a,none)," + first + ");" + lastStep + "}be b(a:iso A){}}", 400, 1);
        for (int i = 0; (house.actor(0, 1) > 0 || i == 0) && i < 10000; i++) {
            house.step(0, 1);
        }
        CHECKS.same("objects of the chain", house.world(1), count);
        CHECKS.same("fails", house.world(7), 0);
        return house;
    }

    private static void showKept() {
        CHECKS.sentence("how many characters (the first 3000 are kept)");
        for (int length = 2998; length <= 3002; length++) {
            StringBuilder due = new StringBuilder();
            ActorHouse house = chained(length, "", due);
            CHECKS.same("show(0, 0)", house.show(0, 0), length);
            kept(house, due.toString());
        }
    }

    private static void kept(ActorHouse house, String due) {
        CHECKS.same("what is kept", Checks.output(house), due.substring(0, Math.min(3000, due.length())));
        for (int k = 2990; k <= 3010; k++) {
            int letter = k < 3000 && k < due.length() ? due.charAt(k) : 0;
            CHECKS.same("letter(" + k + ") of " + due.length(), house.letter(k), letter);
        }
        CHECKS.same("letter(0)", house.letter(0), due.charAt(0));
    }

    private static void peekNumbers() {
        CHECKS.sentence("how many characters; NONE likewise.");
        ActorHouse house = CHECKS.started("actor Main{var n:int;new(){this!a(1);this!a(2);new W();}be a(n:int){}}actor W{new(){}}", 9, 3);
        CHECKS.peeks(house, 0, 0, "new()");
        for (int k : new int[] {LEAST, -1, 1, 2, 5, 6, GREATEST}) {
            refused(house, house.peek(0, k), "peek(0, " + k + ") of one message");
        }
        house.step(0, 200);
        refused(house, house.peek(0, 0), "peek(0, 0) of an empty mailbox");
        CHECKS.isTrue("start again", house.start(9, 3));
        house.step(0, 11);
        CHECKS.same("messages", house.actor(0, 2), 2);
        CHECKS.peeks(house, 0, 0, "a(1)");
        CHECKS.peeks(house, 0, 1, "a(2)");
        CHECKS.peeks(house, 1, 0, "new()");
        for (int k : new int[] {LEAST, -2, -1, 2, 3, 4, 5, 6, 7, GREATEST}) {
            refused(house, house.peek(0, k), "peek(0, " + k + ") of two messages");
        }
        for (int actor : new int[] {LEAST, -1, 2, 11, 12, GREATEST}) {
            refused(house, house.peek(actor, 0), "peek(" + actor + ", 0) of two actors");
        }
        refused(house, house.peek(1, 1), "peek(1, 1)");
    }

    private static void peekRefused() {
        CHECKS.sentence("how many characters; NONE likewise.");
        ActorHouse house = CHECKS.started("actor Main{new(){}}", 9, 1);
        CHECKS.peeks(house, 0, 0, "new()");
        CHECKS.same("peek(0, 1)", house.peek(0, 1), -1);
        for (int k = 0; k < 6; k++) {
            CHECKS.same("letter(" + k + ")", house.letter(k), 0);
        }
        house.step(0, 1);
        CHECKS.same("peek of what was taken", house.peek(0, 0), -1);
    }

    private static void peekOfEachPlace() {
        CHECKS.sentence("Message k (from 0) of an actor's mailbox is WRITTEN to the output");
        for (int size = 1; size <= 6; size++) {
            ActorHouse house = CHECKS.started("actor Main{new(){var k:int=0;var w:W=new W(9);while 1{w!abcdefgh(k,w,none);k=k+1;}}}"
                + "actor W{new(n:int){}be abcdefgh(n:int,w:W,v:W){}}", 9, size);
            house.step(0, 200);
            CHECKS.peeks(house, 1, 0, "new(9)");
            for (int k = 1; k < size; k++) {
                CHECKS.peeks(house, 1, k, "abcdefgh(" + (k - 1) + ",W@1,none)");
            }
            CHECKS.same("peek(1, " + size + ")", house.peek(1, size), -1);
            for (int round = 0; round < 8; round++) {
                house.step(1, 2);
                CHECKS.same("one was taken", house.peek(1, size - 1), -1);
                house.step(0, 30);
                for (int k = 0; k < size; k++) {
                    CHECKS.peeks(house, 1, k, "abcdefgh(" + (k + round) + ",W@1,none)");
                }
                CHECKS.same("peek(1, " + size + ")", house.peek(1, size), -1);
            }
        }
    }

    private static void peekKept() {
        CHECKS.sentence("(the first 3000 are kept)");
        for (int length = 2998; length <= 3002; length++) {
            StringBuilder due = new StringBuilder();
            ActorHouse house = chained(length - 3, "this!b(swap(this.a,none));", due);
            CHECKS.same("peek(0, 0)", house.peek(0, 0), length);
            kept(house, "b(" + due + ")");
        }
    }

    private static void letterNumbers() {
        CHECKS.sentence("A character of the output; 0 if there is none such.");
        ActorHouse house = CHECKS.started("actor Main{var n:int;new(){this.n=12345;}}", 9, 1);
        Checks.runAll(house);
        CHECKS.same("show", house.show(0, 0), 5);
        for (int k = 0; k < 5; k++) {
            CHECKS.same("letter(" + k + ")", house.letter(k), '1' + k);
        }
        for (int k : new int[] {LEAST, -2, -1, 5, 6, 2999, 3000, 3001, GREATEST}) {
            CHECKS.same("letter(" + k + ")", house.letter(k), 0);
        }
    }

    private static void letterOfNothing() {
        CHECKS.sentence("A character of the output; 0 if there is none such.");
        ActorHouse[] houses = {new ActorHouse(), CHECKS.built("actor Main{new(){}}"), CHECKS.started("actor Main{new(){}}", 1, 1)};
        for (ActorHouse house : houses) {
            for (int k : new int[] {LEAST, -1, 0, 1, 2999, 3000, GREATEST}) {
                CHECKS.same("letter(" + k + ")", house.letter(k), 0);
            }
        }
    }

    /** Nothing but show, peek, build and start changes the output; a shorter one leaves nothing of a longer one. */
    private static void letterStays() {
        CHECKS.sentence("A character of the output");
        ActorHouse house = CHECKS.started("actor Main{var n:int;var m:Main;new(){this.n=1;this.m=this;}}", 9, 1);
        Checks.runAll(house);
        CHECKS.shows(house, 0, 1, "Main@0");
        house.step(0, 1);
        house.feed(0, 0, 0, 0, 0);
        house.end(0);
        house.world(0);
        house.told(0, 0);
        house.start(0, 0);
        house.rights(0, 0, 0);
        CHECKS.same("the output", Checks.output(house), "Main@0");
        CHECKS.shows(house, 0, 0, "1");
        CHECKS.same("letter(1)", house.letter(1), 0);
        CHECKS.isTrue("start", house.start(9, 1));
        CHECKS.same("letter(0) behind start", house.letter(0), 0);
    }

    private static void intsWritten() {
        CHECKS.sentence("an int with - if below 0");
        String[] texts = {"0", "1", "9", "10", "99", "100", "999999999", "999999999+1", "g", "0-1", "0-9", "0-10", "0-999999999", "l+1", "l"};
        int[] values = {0, 1, 9, 10, 99, 100, 999999999, 1000000000, GREATEST, -1, -9, -10, -999999999, LEAST + 1, LEAST};
        for (int i = 0; i < texts.length; i++) {
            ActorHouse house = CHECKS.started("actor Main{var n:int;new(){var g:int=999999999+999999999+147483649;var l:int=g+1;this.n="
                + texts[i] + ";}}", 9, 1);
            house.step(0, 200);
            CHECKS.shows(house, 0, 0, String.valueOf(values[i]));
            ActorHouse sent = CHECKS.started("actor Main{var w:W;new(){var g:int=999999999+999999999+147483649;var l:int=g+1;this.w=new W("
                + texts[i] + ");}}actor W{new(n:int){}}", 9, 1);
            sent.step(0, 200);
            CHECKS.peeks(sent, 1, 0, "new(" + values[i] + ")");
        }
    }

    private static void noneWritten() {
        CHECKS.sentence("an int with - if below 0; none;");
        ActorHouse house = CHECKS.started("class A{var a:iso A;var b:trn A;var c:ref A;var d:val A;var e:box A;var m:Main;var n:int;new(){}}"
            + "actor Main{var i:iso A;var t:trn A;var r:ref A;var v:val A;var b:box A;var m:Main;var a:ref A;new(){this.a=new A();}}", 40, 1);
        Checks.runAll(house);
        for (int f = 0; f < 6; f++) {
            CHECKS.shows(house, 0, f, "none");
        }
        CHECKS.shows(house, 0, 6, "A#1{a:none,b:none,c:none,d:none,e:none,m:none,n:0}");
    }

    private static void actorsWritten() {
        CHECKS.sentence("an actor: its TITLE, @, its number");
        ActorHouse house = CHECKS.started("actor Main{var m:Main;var k:int;var a:Abcdefgh;new(){this.m=this;while this.k<11{this.k=this.k+1;"
            + "this.a=new Abcdefgh(this.a);}}}actor Abcdefgh{var a:Abcdefgh;new(a:Abcdefgh){this.a=a;}}", 100, 1);
        run(house, 0, 3);
        CHECKS.shows(house, 0, 0, "Main@0");
        CHECKS.shows(house, 0, 2, "Abcdefgh@11");
        CHECKS.peeks(house, 1, 0, "new(none)");
        for (int actor = 2; actor <= 11; actor++) {
            CHECKS.peeks(house, actor, 0, "new(Abcdefgh@" + (actor - 1) + ")");
            house.step(actor, 200);
            CHECKS.shows(house, actor, 0, "Abcdefgh@" + (actor - 1));
        }
    }

    private static void objectsWritten() {
        CHECKS.sentence("an object: its TITLE, #, its number, and, where one of its number is written first, { , its fields in order (NAME : "
            + "value) with commas between, } ; no blanks.");
        ActorHouse house = CHECKS.started("class E{new(){}}class F{var a:int;new(){}}class G{var a:ref E;var b:ref F;var c:ref E;var d:ref G;"
            + "new(){}}actor Main{var g:ref G;var e:ref E;var f:ref F;new(){this.e=new E();this.f=new F();this.g=new G();this.g.a=this.e;"
            + "this.g.c=this.e;this.g.b=this.f;this.g.d=new G();this.g.d.d=this.g;this.g.d.b=this.f;}}", 40, 1);
        Checks.runAll(house);
        CHECKS.shows(house, 0, 1, "E#1{}");
        CHECKS.shows(house, 0, 2, "F#2{a:0}");
        CHECKS.shows(house, 0, 0, "G#3{a:E#1{},b:F#2{a:0},c:E#1,d:G#4{a:none,b:F#2,c:none,d:G#3}}");
        CHECKS.shows(house, 0, 1, "E#1{}");
    }

    private static void firstInEach() {
        CHECKS.sentence("(an object that is written first in one of them is not again in the next)");
        ActorHouse house = CHECKS.started("class A{var n:int;var a:val A;new(n:int,a:val A){this.n=n;this.a=a;}}actor Main{var v:val A;new(){"
            + "var x:val A=new val A(1,none);var y:val A=new val A(2,x);this.v=y;new W()!b(x,y,x,y,none,new val A(3,y));}}"
            + "actor W{new(){}be b(a:val A,b:val A,c:val A,d:val A,e:val A,f:val A){}}", 40, 2);
        house.step(0, 200);
        String due = "b(A#1{n:1,a:none},A#2{n:2,a:A#1},A#1,A#2,none,A#3{n:3,a:A#2})";
        CHECKS.peeks(house, 1, 1, due);
        CHECKS.peeks(house, 1, 1, due);
        CHECKS.shows(house, 0, 0, "A#2{n:2,a:A#1{n:1,a:none}}");
        CHECKS.peeks(house, 1, 1, due);
    }

    private static void eightFields() {
        CHECKS.sentence("its fields in order (NAME : value) with commas between");
        for (int count = 0; count <= 8; count++) {
            StringBuilder fields = new StringBuilder();
            StringBuilder sets = new StringBuilder();
            StringBuilder due = new StringBuilder("A#1{");
            for (int i = 1; i <= count; i++) {
                fields.append("var f").append(i).append(":int;");
                sets.append("this.f").append(i).append("=").append(i * 11).append(";");
                due.append(i == 1 ? "" : ",").append("f").append(i).append(":").append(i * 11);
            }
            ActorHouse house = CHECKS.started("class A{" + fields + "new(){" + sets + "}}actor Main{var a:ref A;new(){this.a=new A();}}", 40, 1);
            Checks.runAll(house);
            CHECKS.shows(house, 0, 0, due + "}");
        }
    }

    private static void greatNumbers() {
        CHECKS.sentence("an object: its TITLE, #, its number");
        for (int count : new int[] {0, 7, 8, 9, 10, 97, 98, 99, 100, 396, 397, 398}) {
            ActorHouse house = CHECKS.started("class A{new(){}}actor Main{new(){var k:int=0;while k<" + count + "{k=k+1;new A();}"
                + "this!b(new iso A());}be b(a:iso A){}}", 400, 1);
            for (int i = 0; (house.actor(0, 1) > 0 || i == 0) && i < 10000; i++) {
                house.step(0, 1);
            }
            CHECKS.peeks(house, 0, 0, "b(A#" + (count + 1) + "{})");
        }
    }

    private static void copies() {
        CHECKS.sentence("Each actor has objects of its own; what a message brings is copied.");
        ActorHouse house = CHECKS.started("class A{var n:int;var a:iso A;new(n:int){this.n=n;}}actor Main{var a:iso A;var v:val A;new(){"
            + "var w:W=new W(this);this.a=new iso A(1);this.a.a=new iso A(2);w!take(swap(this.a,new iso A(3)));this.a.n=4;this.v=new val A(5);"
            + "w!keep(this.v);}be back(a:iso A){this.a=consume a;this.a.n=this.a.n+100;}}actor W{var m:Main;var a:iso A;var v:val A;"
            + "new(m:Main){this.m=m;}be take(a:iso A){a.n=a.n+10;a.a.n=a.a.n+10;this.m!back(swap(this.a,consume a));}be keep(v:val A){this.v=v;"
            + "this.m!back(swap(this.a,none));}}", 40, 6);
        house.step(0, 200);
        CHECKS.shows(house, 0, 0, "A#3{n:4,a:none}");
        CHECKS.peeks(house, 1, 1, "take(A#1{n:1,a:A#2{n:2,a:none}})");
        CHECKS.peeks(house, 1, 2, "keep(A#4{n:5,a:none})");
        house.step(1, 200);
        CHECKS.shows(house, 0, 0, "A#3{n:4,a:none}");
        CHECKS.shows(house, 0, 1, "A#4{n:5,a:none}");
        CHECKS.shows(house, 1, 2, "A#4{n:5,a:none}");
        CHECKS.shows(house, 1, 1, "none");
        CHECKS.peeks(house, 0, 0, "back(none)");
        CHECKS.peeks(house, 0, 1, "back(A#1{n:11,a:A#2{n:12,a:none}})");
        house.step(0, 200);
        CHECKS.shows(house, 0, 0, "A#1{n:111,a:A#2{n:12,a:none}}");
        CHECKS.same("the first one brought none", house.world(7), 1);
        CHECKS.same("copies take no cells", house.world(2), 3 + 4 + 4 * 3);
    }

    private static void copiesOnce() {
        CHECKS.sentence("A message is a copy of all that its arguments lead to (an object with the same number, each once)");
        ActorHouse house = CHECKS.started("class A{var a:ref A;var b:ref A;var n:int;new(){}fun ref turn():int{this.a.n=7;return this.b.n;}}"
            + "actor Main{new(){new W()!b(recover{var x:ref A=new A();x.a=new A();x.b=x.a;x.a.a=x;x.a.b=x.a;give x;});}}"
            + "actor W{var a:iso A;new(){}be b(a:iso A){tell a.turn();this.a=consume a;}}", 40, 2);
        house.step(0, 200);
        CHECKS.peeks(house, 1, 1, "b(A#1{a:A#2{a:A#1,b:A#2,n:0},b:A#2,n:0})");
        Checks.runAll(house);
        CHECKS.same("what was one is one", Checks.told(house), "7@1");
        CHECKS.shows(house, 1, 0, "A#1{a:A#2{a:A#1,b:A#2,n:7},b:A#2,n:0}");
    }

    private static void actorsAreThemselves() {
        CHECKS.sentence("an actor is itself.");
        ActorHouse house = CHECKS.started("class A{var m:Main;new(m:Main){this.m=m;}}actor Main{var n:int;new(){new W()!b(this,new iso A(this));}"
            + "be hit(){this.n=this.n+1;}}actor W{new(){}be b(m:Main,a:iso A){m!hit();a.m!hit();}}", 40, 2);
        Checks.runAll(house);
        CHECKS.shows(house, 0, 0, "2");
        CHECKS.same("actors", house.world(0), 2);
    }
}
