/** Promises 8 (start), 9 (step), 10 (world) and 11 (actor): INSTRUCTIONS, MAILBOXES and FAILS. */
public final class RunTest {
    private static final Checks CHECKS = new Checks();

    public static void main(String[] args) {
        startNumbers();
        startAgain();
        startInTheMiddle();
        stepNumbers();
        instructionsOfEach();
        branches();
        arithmetic();
        namesAndSwaps();
        callsAndBodies();
        manyLocals();
        mailboxes();
        fullMailbox();
        fullOfItself();
        failNone();
        failCells();
        manyObjects();
        failBodies();
        failActors();
        failOrder();
        failEndsTheMessage();
        kindsOfActors();
        orderIsAsked();
        CHECKS.finish();
    }

    private static void startNumbers() {
        ActorHouse house = CHECKS.built("actor Main{var a:int;var b:int;new(){}}");
        CHECKS.isFalse("start(0, 1)", house.start(0, 1));
        CHECKS.isFalse("start(-5, 1)", house.start(-5, 1));
        CHECKS.isFalse("start(401, 1)", house.start(401, 1));
        CHECKS.isFalse("start(10, 0)", house.start(10, 0));
        CHECKS.isFalse("start(10, 7)", house.start(10, 7));
        CHECKS.isFalse("start(10, -1)", house.start(10, -1));
        CHECKS.isFalse("start of the greatest ints", house.start(Integer.MAX_VALUE, Integer.MAX_VALUE));
        CHECKS.isFalse("start(2, 1), three cells are needed", house.start(2, 1));
        CHECKS.same("nothing runs", house.world(0), 0);
        CHECKS.isTrue("start(3, 1)", house.start(3, 1));
        CHECKS.same("cells taken", house.world(2), 3);
        CHECKS.isTrue("start(400, 6)", house.start(400, 6));
        CHECKS.isTrue("start(1, 6) of no fields", CHECKS.built("actor Main{new(){}}").start(1, 6));
    }

    private static void startAgain() {
        ActorHouse house = CHECKS.started(
            "class A{new(){}}actor Main{var n:int;new(){this.n=this.n+1;tell 5;new A();new Main();none;}}", 9, 1);
        house.step(0, 200);
        CHECKS.shows(house, 0, 0, "1");
        CHECKS.same("actors", house.world(0), 2);
        CHECKS.isFalse("a start that fails", house.start(1, 1));
        CHECKS.same("what ran goes on", house.world(0), 2);
        CHECKS.isTrue("start again", house.start(5, 2));
        int[] due = {1, 0, 2, 0, 0, 1, 0, 0};
        for (int what = 0; what < 8; what++) {
            CHECKS.same("world(" + what + ") of a new start", house.world(what), due[what]);
        }
        CHECKS.same("letter of a new start", house.letter(0), 0);
        CHECKS.same("told of a new start", house.told(0, 0), 0);
        CHECKS.same("bodies", house.actor(0, 1), 0);
        CHECKS.same("mailbox", house.actor(0, 2), 1);
        CHECKS.same("instructions", house.actor(0, 3), 0);
        CHECKS.shows(house, 0, 0, "0");
        house.step(0, 200);
        CHECKS.shows(house, 0, 0, "1");
    }

    /** Nothing of what ran is left: no body, message, fail or full mailbox. */
    private static void startInTheMiddle() {
        String text = "actor Main{var m:Main;new(){new W(this);new W(none);this!a(this.two());this!a(1);this.m!a(1);}"
            + "be a(n:int){this!a(n);this.m!a(n);}fun ref two():int{return 2;}}actor W{new(m:Main){m!a(3);m!a(4);m!a(5);}}";
        ActorHouse house = CHECKS.built(text);
        int[] first = null;
        for (int round = 0; round < 4; round++) {
            CHECKS.isTrue("start", house.start(20, 2));
            CHECKS.same("messages", house.actor(0, 2), 1);
            CHECKS.same("bodies", house.actor(0, 1), 0);
            CHECKS.same("fails", house.actor(0, 4), 0);
            for (int what = 3; what < 8; what++) {
                CHECKS.same("world(" + what + ")", house.world(what), what == 5 ? 1 : 0);
            }
            house.step(0, 18);
            house.step(1, 40);
            house.step(2, 7);
            house.step(0, 30);
            int[] now = {house.world(5), house.world(7), house.actor(1, 2), house.actor(2, 4), house.actor(1, 4)};
            first = first == null ? now : first;
            for (int i = 0; i < now.length; i++) {
                CHECKS.same("count " + i + " of round " + round, now[i], first[i]);
            }
            CHECKS.isTrue("a full mailbox was met", house.world(6) > 0);
            CHECKS.isTrue("a fail was met", house.world(7) > 0);
            house.step(0, 1 + round);
        }
    }

    private static void stepNumbers() {
        ActorHouse house = CHECKS.started("actor Main{new(){while 1{}}}", 1, 1);
        CHECKS.same("step(0, 0)", house.step(0, 0), -1);
        CHECKS.same("step(0, -1)", house.step(0, -1), -1);
        CHECKS.same("step(0, 201)", house.step(0, 201), -1);
        CHECKS.same("step(1, 1)", house.step(1, 1), -1);
        CHECKS.same("step(-1, 1)", house.step(-1, 1), -1);
        CHECKS.same("step(12, 1)", house.step(12, 1), -1);
        CHECKS.same("no instruction was done", house.world(3), 0);
        CHECKS.same("step(0, 1)", house.step(0, 1), 1);
        CHECKS.same("step(0, 200)", house.step(0, 200), 200);
        CHECKS.same("instructions", house.world(3), 201);
        CHECKS.same("instructions of the actor", house.actor(0, 3), 201);
        CHECKS.same("world(8)", house.world(8), -1);
        CHECKS.same("world(-1)", house.world(-1), -1);
        CHECKS.same("actor(0, 5)", house.actor(0, 5), -1);
        CHECKS.same("actor(0, -1)", house.actor(0, -1), -1);
        CHECKS.same("actor(1, 0)", house.actor(1, 0), -1);
        CHECKS.same("actor(-1, 0)", house.actor(-1, 0), -1);
    }

    /** A step of Main's MAKER takes so many instructions, beside the taking of the message and the end. */
    private static void takes(int due, String steps) {
        ActorHouse house = CHECKS.started("class A{var n:int;new(){}fun ref f(n:int):int{return n;}fun ref g(){}}"
            + "actor Main{var a:ref A;var n:int;new(){" + steps + "}be b(n:int){}}", 100, 6);
        CHECKS.same("instructions of " + steps, house.step(0, 200), due + 2);
        CHECKS.same("fails of " + steps, house.world(7), 0);
    }

    private static void instructionsOfEach() {
        takes(0, "");
        takes(2, "1;");
        takes(2, "(((1)));");
        takes(2, "none;");
        takes(2, "this;");
        takes(2, "tell 1;");
        takes(2, "var x:int=1;");
        takes(4, "var x:int=1;x;");
        takes(4, "var x:int=1;consume x;");
        takes(4, "var x:int=1;x=2;");
        takes(3, "this.n;");
        takes(3, "this.n=1;");
        takes(4, "swap(this.n,1);");
        takes(5, "var x:int=1;swap(x,2);");
        takes(3, "has(none);");
        takes(8, "1+2*3-4;");
        takes(4, "1+2;");
        takes(3, "new A();");
        takes(2, "new Main();");
        takes(4 + 2, "this!b(1);");
        takes(3, "recover{give 1;};");
        takes(5, "recover{tell 1;give 1;};");
        takes(7, "new A().f(7);");
        takes(5, "new A().g();");
        takes(4, "this.a=new A();");
    }

    private static void branches() {
        takes(2, "if 0{tell 1;}");
        takes(4, "if 1{tell 1;}");
        takes(4, "if 7{tell 1;}else{}");
        takes(2, "if 7{}else{tell 1;}");
        takes(4, "if 0{}else{tell 1;}");
        takes(4, "if 0-1{}");
        takes(2, "while 0{tell 1;}");
        takes(2 + 2 + 2, "if 1{if 0{}else{tell 3;}}");
        takes(2 + 2 + 2 + 2, "var x:int=1;while x{x=0;}");
        takes(2 + 3 * (4 + 4) + 4, "var x:int=0;while x<3{x=x+1;}");
        takes(2 + 2 * (4 + 4 + 2 + 2) + 4, "var x:int=0;while x<2{x=x+1;if 1{while 0{}}}");
        ActorHouse house = CHECKS.started(
            "actor Main{new(){if 2{tell 1;}else{tell 2;}if 0{tell 3;}else{tell 4;}if 0{tell 5;}tell 6;}}", 1, 1);
        Checks.runAll(house);
        CHECKS.same("told", Checks.told(house), "1@0,4@0,6@0");
    }

    private static void arithmetic() {
        String steps = "tell 1+2*3;tell 7-9;tell 3<4;tell 4<4;tell 5<4;tell 4==4;tell 4==5;tell 999999999*999999999;"
            + "tell 999999999+999999999+999999999;tell 0-999999999-999999999-999999999;tell 1-(2-3);tell 1==1==1;";
        ActorHouse house = CHECKS.started("actor Main{new(){" + steps + "}}", 1, 1);
        Checks.runAll(house);
        int product = 999999999 * 999999999;
        int sum = 999999999 * 3;
        CHECKS.same("told", Checks.told(house), "9@0,-2@0,1@0,0@0,0@0,1@0,0@0," + product + "@0," + sum + "@0,"
            + -sum + "@0,2@0,1@0");
    }

    private static void namesAndSwaps() {
        ActorHouse house = CHECKS.started("class A{var n:int;new(){}}actor Main{var n:int;var a:ref A;new(){"
            + "tell has(none);tell has(this);tell has(this.a);this.a=new A();tell has(this.a);"
            + "var x:int=5;tell swap(x,6);tell x;tell swap(x,x+1)*100+x;tell swap(this.n,3);tell this.n;tell swap(this.n,this.n+1);"
            + "tell this.n;var y:ref A=none;tell has(swap(y,this.a));tell has(y);tell swap(y.n,8);tell this.a.n;tell consume x;"
            + "tell recover{var z:int=4;z=z+z;give z*2;}+1;x=9;tell x;}}", 9, 1);
        Checks.runAll(house);
        CHECKS.same("told", Checks.told(house).replace("@0", ""), "0,1,0,1,5,6,607,0,3,3,4,0,1,0,8,7,17,9");
    }

    /** Ten bodies with sixteen locals each, and messages between that leave nothing behind. */
    private static void manyLocals() {
        StringBuilder vars = new StringBuilder();
        StringBuilder sum = new StringBuilder("k");
        for (int i = 1; i <= 15; i++) {
            vars.append("var v").append(i).append(":int=k+").append(i).append(";");
            sum.append("+v").append(i);
        }
        ActorHouse house = CHECKS.started("actor Main{var n:int;new(){tell this.f(8);}fun ref f(k:int):int{" + vars
            + "this!hi(k);this!hi(v3);if k{v1=v1+this.f(k-1);}tell 1+(2+(3+(4+(5+6))));return " + sum + ";}be hi(n:int){}}", 9, 6);
        for (int i = 0; i < 40; i++) {
            house.step(0, 200);
        }
        CHECKS.isTrue("it waits for its own mailbox", house.world(6) > 0);
        house = CHECKS.started("actor Main{var n:int;var w:W;new(){this.w=new W();tell this.f(8);}fun ref f(k:int):int{" + vars
            + "this.w!hi(k);this.w!hi(v3);if k{v1=v1+this.f(k-1);}tell 1+(2+(3+(4+(5+6))));return " + sum
            + ";}}actor W{new(){}be hi(n:int){}}", 9, 6);
        Checks.runAll(house);
        StringBuilder due = new StringBuilder();
        int all = 0;
        for (int k = 0; k <= 8; k++) {
            due.append("21,");
            all += 16 * k + 120;
        }
        CHECKS.same("told", Checks.told(house).replace("@0", ""), due.toString() + all);
        CHECKS.same("no fails", house.world(7), 0);
    }

    private static void callsAndBodies() {
        ActorHouse house = CHECKS.started("class A{var n:int;new(n:int){this.n=n;}fun ref add(a:int,b:int):int{"
            + "var c:int=a*10;this.n=this.n+c+b;return this.n;}}"
            + "actor Main{new(){tell new A(3).add(4,5);tell this.twice(this.twice(2));}"
            + "fun ref twice(n:int):int{return n+n;}}", 10, 1);
        CHECKS.same("takes its message", house.step(0, 1), 1);
        CHECKS.same("one body", house.actor(0, 1), 1);
        house.step(0, 4);
        CHECKS.same("in the MAKER of A", house.actor(0, 1), 2);
        CHECKS.same("an object is made with its body", house.world(1), 1);
        CHECKS.same("cells", house.world(2), 3);
        house.step(0, 3);
        CHECKS.same("still in it", house.actor(0, 1), 2);
        house.step(0, 1);
        CHECKS.same("behind its end", house.actor(0, 1), 1);
        Checks.runAll(house);
        CHECKS.same("told", Checks.told(house), "48@0,8@0");
        CHECKS.same("IDLE", house.actor(0, 1), 0);
        CHECKS.same("nothing to do", house.step(0, 5), 0);
    }

    private static void mailboxes() {
        ActorHouse house = CHECKS.started("actor Main{var w:W;new(){this.w=new W(1);this.w!a(2,this);this.w!b();}be r(n:int){tell n;}}"
            + "actor W{var n:int;new(n:int){this.n=n;}be a(n:int,m:Main){m!r(this.n+n);}be b(){tell 9;}}", 10, 3);
        CHECKS.same("the MAKER of Main", house.actor(0, 2), 1);
        CHECKS.same("messages so far", house.world(5), 1);
        house.step(0, 1);
        CHECKS.same("it was taken", house.actor(0, 2), 0);
        house.step(0, 200);
        CHECKS.same("three messages", house.actor(1, 2), 3);
        CHECKS.same("messages so far", house.world(5), 4);
        CHECKS.same("cells of both", house.world(2), 4);
        CHECKS.same("no objects", house.world(1), 0);
        CHECKS.peeks(house, 1, 0, "new(1)");
        CHECKS.peeks(house, 1, 1, "a(2,Main@0)");
        CHECKS.peeks(house, 1, 2, "b()");
        house.step(1, 1);
        CHECKS.same("two are left", house.actor(1, 2), 2);
        house.step(1, 200);
        house.step(0, 200);
        CHECKS.same("told", Checks.told(house), "9@1,3@0");
        CHECKS.same("messages in all", house.world(5), 5);
        CHECKS.same("no full mailbox", house.world(6), 0);
        CHECKS.same("instructions are those of both", house.world(3), house.actor(0, 3) + house.actor(1, 3));
    }

    private static void fullMailbox() {
        ActorHouse house = CHECKS.started("actor Main{var w:W;new(){this.w=new W();this.w!a(1);this.w!a(2);this.w!a(3);}}"
            + "actor W{new(){}be a(n:int){tell n;}}", 10, 2);
        CHECKS.same("all are done, many in vain", house.step(0, 100), 100);
        CHECKS.same("two messages", house.actor(1, 2), 2);
        int fulls = house.world(6);
        CHECKS.isTrue("met a full mailbox", fulls > 0);
        CHECKS.same("messages so far", house.world(5), 3);
        house.step(0, 5);
        CHECKS.same("it is the next one again", house.world(6), fulls + 5);
        house.step(1, 1);
        CHECKS.same("one was taken", house.actor(1, 2), 1);
        house.step(0, 1);
        CHECKS.same("one was put", house.actor(1, 2), 2);
        CHECKS.peeks(house, 1, 1, "a(2)");
        CHECKS.same("no full one was met", house.world(6), fulls + 5);
        Checks.runAll(house);
        CHECKS.same("told", Checks.told(house), "1@1,2@1,3@1");
        CHECKS.same("no fails", house.world(7), 0);
    }

    private static void fullOfItself() {
        ActorHouse house = CHECKS.started("actor Main{new(){this!a();this!a();}be a(){}}", 10, 1);
        CHECKS.same("takes all it is given", house.step(0, 50), 50);
        CHECKS.same("its mailbox is full", house.actor(0, 2), 1);
        CHECKS.same("times that it was", house.world(6), 50 - 1 - 3 - 1);
        CHECKS.same("it never ends", house.step(0, 200), 200);
        CHECKS.same("still one body", house.actor(0, 1), 1);
    }

    /** Main's MAKER fails with this number at its last instruction. */
    private static ActorHouse fails(int number, int cells, String text) {
        ActorHouse house = CHECKS.started(text, cells, 2);
        int done = house.step(0, 200);
        CHECKS.same("latest fail of " + text, house.actor(0, 4), number);
        CHECKS.same("fails of " + text, house.world(7), 1);
        CHECKS.same("IDLE behind a fail", house.actor(0, 1), 0);
        CHECKS.same("the failing instruction is done", house.world(3), done);
        CHECKS.same("nothing told behind it", house.world(4), 0);
        return house;
    }

    private static void failNone() {
        String head = "class A{var n:int;var a:ref A;new(){}fun ref f(){}}actor Main{var a:ref A;var m:Main;var n:int;new(){";
        String rest = "tell 1;}be b(){}}";
        CHECKS.same("E.f of none", fails(1, 9, head + "this.a.n;" + rest).actor(0, 3), 4);
        CHECKS.same("E.f = of none", fails(1, 9, head + "this.a.n=1;" + rest).actor(0, 3), 5);
        CHECKS.same("swap of none", fails(1, 9, head + "swap(this.a.n,1);" + rest).actor(0, 3), 5);
        CHECKS.same("a call of none", fails(1, 9, head + "this.a.f();" + rest).actor(0, 3), 4);
        CHECKS.same("a message to none", fails(1, 9, head + "this.m!b();" + rest).actor(0, 3), 4);
        fails(1, 20, head + "this.a=new A();this.a.a.n;" + rest);
        fails(1, 20, head + "var x:ref A=none;x.f();" + rest);
        CHECKS.same("no fail", CHECKS.started(head + rest, 9, 1).actor(0, 4), 0);
    }

    private static void failCells() {
        String text = "class A{var n:int;new(){}}actor Main{var n:int;new(){new A();this.n=5;new A();this.n=6;tell 1;}}";
        ActorHouse house = fails(2, 5, text);
        CHECKS.shows(house, 0, 0, "5");
        CHECKS.same("cells", house.world(2), 4);
        CHECKS.same("objects", house.world(1), 1);
        house = CHECKS.started(text, 6, 1);
        Checks.runAll(house);
        CHECKS.same("enough cells", house.world(7), 0);
        CHECKS.same("all are taken", house.world(2), 6);
        house = fails(2, 3, "actor W{var a:int;new(){}}actor Main{var w:W;new(){this.w=new W();tell 1;}}");
        CHECKS.same("no actor is made", house.world(0), 1);
        CHECKS.same("nor its message", house.world(5), 1);
        house = CHECKS.started("class A{var a:int;new(){}}actor Main{new(){while 1{new A();}}}", 400, 1);
        house.step(0, 200);
        house.step(0, 200);
        house.step(0, 200);
        house.step(0, 200);
        house.step(0, 200);
        CHECKS.same("objects of all cells", house.world(1), 199);
        CHECKS.same("cells of them", house.world(2), 399);
        CHECKS.same("fails", house.actor(0, 4), 2);
    }

    private static void manyObjects() {
        ActorHouse house = CHECKS.started("class A{new(){}}actor Main{new(){while 1{new A();}}}", 400, 1);
        for (int i = 0; i < 20; i++) {
            house.step(0, 200);
        }
        CHECKS.same("objects of one cell each", house.world(1), 399);
        CHECKS.same("cells", house.world(2), 400);
        CHECKS.same("the next one fails", house.actor(0, 4), 2);
    }

    private static void failBodies() {
        String text = "actor Main{var n:int;new(){this.f(9);tell 1;}fun ref f(k:int){this.n=this.n+1;if k{this.f(k-1);}}}";
        ActorHouse house = fails(3, 9, text);
        CHECKS.shows(house, 0, 0, "9");
        house = CHECKS.started(text.replace("f(9)", "f(8)"), 9, 1);
        Checks.runAll(house);
        CHECKS.same("ten bodies are fine", house.world(7), 0);
        CHECKS.shows(house, 0, 0, "9");
        CHECKS.same("and it goes on", Checks.told(house), "1@0");
        house = fails(3, 99, "class A{var a:ref A;new(n:int){if n{this.a=new A(n-1);}}}actor Main{new(){new A(9);tell 1;}}");
        CHECKS.same("objects", house.world(1), 9);
    }

    private static void failActors() {
        String text = "actor Main{var n:int;new(){while this.n<12{this.n=this.n+1;new W();}tell 1;}}actor W{new(){}}";
        ActorHouse house = CHECKS.started(text, 50, 1);
        Checks.runAll(house);
        CHECKS.same("twelve actors", house.world(0), 12);
        CHECKS.same("the thirteenth", house.actor(0, 4), 4);
        CHECKS.shows(house, 0, 0, "12");
        CHECKS.same("cells", house.world(2), 13);
        CHECKS.same("the last one", house.actor(11, 0), 1);
        CHECKS.same("none behind it", house.actor(12, 0), -1);
        CHECKS.same("it did what it had", house.actor(11, 3), 2);
    }

    private static void failOrder() {
        String deep = "actor Main{var a:ref A;new(){this.f(8);}fun ref f(k:int){if k{this.f(k-1);}else{";
        fails(1, 9, "class A{new(){}fun ref g(){}}" + deep + "this.a.g();}}}");
        fails(3, 2, "class A{new(){}fun ref g(){}}" + deep + "new A();}}}");
        fails(2, 2, "class A{new(){}fun ref g(){}}" + deep.replace("f(8)", "f(7)") + "new A();}}}");
        ActorHouse house = CHECKS.started("actor Main{new(){while 1{new Main();}}}", 12, 1);
        house.step(0, 200);
        CHECKS.same("actors ahead of cells", house.actor(0, 4), 4);
        house = CHECKS.started("actor Main{new(){while 1{new Main();}}}", 11, 1);
        house.step(0, 200);
        CHECKS.same("cells", house.actor(0, 4), 2);
    }

    private static void failEndsTheMessage() {
        ActorHouse house = CHECKS.started("actor Main{var m:Main;var n:int;new(){this!a(1);this!b();this!a(2);}"
            + "be a(k:int){this.n=this.n*10+k;}be b(){this.f(1+this.g());}fun ref f(k:int){}"
            + "fun ref g():int{this.n=this.n*10+7;this.m!b();return 1;}}", 9, 4);
        Checks.runAll(house);
        CHECKS.shows(house, 0, 1, "172");
        CHECKS.same("fails", house.world(7), 1);
        CHECKS.same("its latest", house.actor(0, 4), 1);
        CHECKS.same("IDLE", house.actor(0, 1), 0);
        CHECKS.same("messages", house.world(5), 4);
    }

    private static void kindsOfActors() {
        ActorHouse house = CHECKS.started("class A{new(){}}actor W{new(){}}actor Main{new(){new V();new W();}}actor V{new(){}}", 9, 1);
        house.step(0, 200);
        CHECKS.same("Main", house.actor(0, 0), 2);
        CHECKS.same("V", house.actor(1, 0), 3);
        CHECKS.same("W", house.actor(2, 0), 1);
    }

    /** The same program told in two orders of steps. */
    private static void orderIsAsked() {
        String text = "actor Main{new(){new W(1);new W(2);}}actor W{new(n:int){tell n;tell n*10;}}";
        ActorHouse house = CHECKS.started(text, 9, 1);
        house.step(0, 200);
        house.step(2, 3);
        house.step(1, 200);
        house.step(2, 200);
        CHECKS.same("one order", Checks.told(house), "2@2,1@1,10@1,20@2");
        house.start(9, 1);
        house.step(0, 200);
        house.step(1, 200);
        house.step(2, 200);
        CHECKS.same("another order", Checks.told(house), "1@1,10@1,2@2,20@2");
    }
}
