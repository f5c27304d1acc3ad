/** The bounds of what runs, sentence by sentence: promises 8 to 11. */
public final class RunBoundsTest {
    private static final Checks CHECKS = new Checks();
    private static final int LEAST = Integer.MIN_VALUE;
    private static final int GREATEST = Integer.MAX_VALUE;

    // One cell, nine cells, and an actor of nine cells.
    private static final String KINDS = "class E{new(){}}class F{" + fields(8) + "new(){}}actor G{" + fields(8) + "new(){}}";

    public static void main(String[] args) {
        startNumbers();
        startOfManyCells();
        startWithoutProgram();
        startRefused();
        startEndsWhatRan();
        stepNumbers();
        stepActors();
        stepAsLongAs();
        worldNumbers();
        worldOfNothing();
        worldCounts();
        actorNumbers();
        actorCounts();
        actorsAtMostTwelve();
        actorsHaveNumbers();
        objectsHaveNumbers();
        cellsOfObjects();
        cellsOfActors();
        cellsForGood();
        lastCell();
        lastObject();
        freshFields();
        bodiesOfCalls();
        bodiesOfMakers();
        bodiesEnd();
        mailboxesOfEachSize();
        mailboxHasMaker();
        mailboxInOrder();
        mailboxGoesRound();
        sixMessagesOfSix();
        fullDoesNothing();
        fullThenNone();
        idle();
        notZero();
        whileBeginsAgain();
        hasGivesOne();
        numbersWrap();
        comparisons();
        failOne();
        failTwo();
        failThreeAndOne();
        failThreeAndTwo();
        failFour();
        failChangesNothing();
        failEndsTheMessage();
        latestFail();
        CHECKS.finish();
    }

    private static String fields(int count) {
        StringBuilder text = new StringBuilder();
        for (int i = 0; i < count; i++) {
            text.append("var f").append(i).append(":int;");
        }
        return text.toString();
    }

    private static void run(ActorHouse house, int actor, int steps) {
        for (int i = 0; i < steps; i++) {
            house.step(actor, 200);
        }
    }

    /** The answers of world(what), from 0 on. */
    private static void world(ActorHouse house, int... due) {
        for (int what = 0; what < due.length; what++) {
            CHECKS.same("world(" + what + ")", house.world(what), due[what]);
        }
    }

    private static void told(ActorHouse house, String due) {
        CHECKS.same("told", Checks.told(house), due);
    }

    private static void startNumbers() {
        CHECKS.sentence("so many CELLS (1 .. 400), MAILBOXES of so many messages (1 .. 6): true; false without a program, for other numbers");
        ActorHouse house = CHECKS.built("actor Main{new(){}}");
        int[] cells = {LEAST, -400, -1, 0, 1, 2, 399, 400, 401, 402, GREATEST};
        int[] mailboxes = {LEAST, -6, -1, 0, 1, 2, 3, 4, 5, 6, 7, 8, GREATEST};
        for (int c : cells) {
            for (int m : mailboxes) {
                boolean due = c >= 1 && c <= 400 && m >= 1 && m <= 6;
                CHECKS.same("start(" + c + ", " + m + ")", house.start(c, m) ? 1 : 0, due ? 1 : 0);
            }
        }
    }

    private static void startOfManyCells() {
        CHECKS.sentence("or if actor 0 has more CELLS.");
        for (int count = 0; count <= 8; count++) {
            ActorHouse house = CHECKS.built("actor Main{" + fields(count) + "new(){}}");
            for (int cells = 0; cells <= 12; cells++) {
                CHECKS.same("start(" + cells + ", 1) with " + count + " fields", house.start(cells, 1) ? 1 : 0, cells > count ? 1 : 0);
            }
            CHECKS.same("cells taken", house.world(2), count + 1);
        }
        ActorHouse house = CHECKS.built(KINDS + "actor Main{new(){}}");
        CHECKS.isTrue("only actor 0 counts", house.start(1, 1));
    }

    private static void startWithoutProgram() {
        CHECKS.sentence("false without a program");
        ActorHouse house = new ActorHouse();
        CHECKS.isFalse("start of a new object", house.start(400, 6));
        Checks.write(house, "actor Main{new(){}}");
        CHECKS.isFalse("start ahead of build", house.start(400, 6));
        house.build();
        CHECKS.isTrue("start behind build", house.start(400, 6));
        house.build();
        CHECKS.isFalse("start behind a build of nothing", house.start(400, 6));
        world(house, 0, 0, 0, 0, 0, 0, 0, 0);
    }

    private static void startRefused() {
        CHECKS.sentence("true; false without a program, for other numbers, or if actor 0 has more CELLS.");
        ActorHouse house = CHECKS.started("actor Main{var n:int;new(){tell 7;while 1{}}}", 10, 2);
        house.step(0, 20);
        house.show(0, 0);
        CHECKS.isFalse("start(1, 1), two cells are needed", house.start(1, 1));
        CHECKS.isFalse("start(0, 1)", house.start(0, 1));
        CHECKS.isFalse("start(401, 1)", house.start(401, 1));
        CHECKS.isFalse("start(10, 0)", house.start(10, 0));
        CHECKS.isFalse("start(10, 7)", house.start(10, 7));
        world(house, 1, 0, 2, 20, 1, 1, 0, 0);
        CHECKS.same("the output stays", house.letter(0), '0');
        told(house, "7@0");
        CHECKS.same("it goes on", house.step(0, 3), 3);
    }

    private static void startEndsWhatRan() {
        CHECKS.sentence("The program starts (what ran is over): actor 0, with its MAKER's message, nothing told, no output");
        ActorHouse house = CHECKS.started("class A{var n:int;var m:Main;new(){this.n=5;}}actor Main{var n:int;var a:ref A;new(){this.n=1;"
            + "this.a=new A();tell 7;new Main();this!b();this!b();this!b();}be b(){this.a.m!b();}}", 40, 2);
        house.step(0, 40);
        house.step(1, 9);
        house.show(0, 0);
        CHECKS.isTrue("a full mailbox was met", house.world(6) > 0);
        CHECKS.isTrue("start", house.start(40, 2));
        world(house, 1, 0, 3, 0, 0, 1, 0, 0);
        CHECKS.same("letter(0)", house.letter(0), 0);
        CHECKS.same("told(0, 0)", house.told(0, 0), 0);
        int[] actor = {1, 0, 1, 0, 0};
        for (int what = 0; what < 5; what++) {
            CHECKS.same("actor(0, " + what + ")", house.actor(0, what), actor[what]);
            CHECKS.same("actor(1, " + what + ")", house.actor(1, what), -1);
        }
        CHECKS.peeks(house, 0, 0, "new()");
        CHECKS.shows(house, 0, 0, "0");
        CHECKS.shows(house, 0, 1, "none");
    }

    private static void stepNumbers() {
        CHECKS.sentence("An actor does so many INSTRUCTIONS (1 .. 200)");
        ActorHouse house = CHECKS.started("actor Main{new(){while 1{}}}", 1, 1);
        int done = 0;
        for (int n : new int[] {LEAST, -200, -1, 0, 1, 2, 199, 200, 201, 202, GREATEST}) {
            boolean fine = n >= 1 && n <= 200;
            CHECKS.same("step(0, " + n + ")", house.step(0, n), fine ? n : -1);
            done += fine ? n : 0;
            CHECKS.same("instructions done", house.world(3), done);
            CHECKS.same("of the actor", house.actor(0, 3), done);
        }
    }

    private static void stepActors() {
        CHECKS.sentence("NONE for another number, or without such an actor.");
        ActorHouse house = CHECKS.started("actor Main{new(){new W();new W();}}actor W{new(){}}", 9, 1);
        for (int actor : new int[] {LEAST, -2, -1, 1, 2, 3, 11, 12, 13, GREATEST}) {
            CHECKS.same("step(" + actor + ", 1) of one actor", house.step(actor, 1), -1);
        }
        CHECKS.same("step(0, 5)", house.step(0, 5), 5);
        CHECKS.same("actors", house.world(0), 3);
        for (int actor : new int[] {LEAST, -2, -1, 3, 4, 11, 12, 13, GREATEST}) {
            CHECKS.same("step(" + actor + ", 1) of three", house.step(actor, 1), -1);
            CHECKS.same("step(" + actor + ", 0) of three", house.step(actor, 0), -1);
        }
        CHECKS.same("step(2, 1)", house.step(2, 1), 1);
        CHECKS.same("step(2, 201)", house.step(2, 201), -1);
        CHECKS.same("instructions", house.world(3), 6);
        CHECKS.same("step of nothing", CHECKS.built("actor Main{new(){}}").step(0, 1), -1);
        CHECKS.same("step of a new object", new ActorHouse().step(0, 1), -1);
    }

    private static void stepAsLongAs() {
        CHECKS.sentence("as long as it has one to do: how many");
        String text = "actor Main{new(){tell 1;}}";
        for (int n = 1; n <= 6; n++) {
            ActorHouse house = CHECKS.started(text, 1, 1);
            CHECKS.same("step(0, " + n + ") of four", house.step(0, n), Math.min(n, 4));
            CHECKS.same("the rest", house.step(0, 200), 4 - Math.min(n, 4));
            CHECKS.same("then none", house.step(0, 1), 0);
            CHECKS.same("then none", house.step(0, 200), 0);
            CHECKS.same("instructions", house.world(3), 4);
        }
        ActorHouse house = CHECKS.started("actor Main{new(){this!b();this!b();}be b(){}}", 1, 6);
        CHECKS.same("all its messages in one step", house.step(0, 200), 2 + 2 * 3 + 2 * 2);
    }

    private static void worldNumbers() {
        CHECKS.sentence("times a full one was met (6), FAILS (7). NONE for another what.");
        ActorHouse[] houses = {new ActorHouse(), CHECKS.built("actor Main{new(){}}"), CHECKS.started("actor Main{new(){}}", 1, 1)};
        for (ActorHouse house : houses) {
            for (int what : new int[] {LEAST, -2, -1, 8, 9, GREATEST}) {
                CHECKS.same("world(" + what + ")", house.world(what), -1);
            }
            for (int what = 0; what <= 7; what++) {
                CHECKS.isTrue("world(" + what + ")", house.world(what) >= 0);
            }
        }
    }

    private static void worldOfNothing() {
        CHECKS.sentence("Nothing runs then, in any case: no actors, nothing told, no output, all counts 0.");
        for (String next : new String[] {"actor Main{var n:int;new(){}}", "?", "", "actor Main{new(){tell x;}}"}) {
            ActorHouse house = CHECKS.started("class A{new(){}}actor Main{var n:int;var m:Main;new(){tell 7;new A();this!b();this!b();}be b(){}}",
                9, 1);
            house.step(0, 50);
            house.show(0, 0);
            Checks.write(house, next);
            house.build();
            world(house, 0, 0, 0, 0, 0, 0, 0, 0);
            CHECKS.same("told(0, 0)", house.told(0, 0), 0);
            CHECKS.same("letter(0)", house.letter(0), 0);
            CHECKS.same("actor(0, 0)", house.actor(0, 0), -1);
            CHECKS.same("step(0, 1)", house.step(0, 1), -1);
            CHECKS.same("show(0, 0)", house.show(0, 0), -1);
            CHECKS.same("peek(0, 0)", house.peek(0, 0), -1);
            CHECKS.same("letter(0)", house.letter(0), 0);
        }
    }

    private static void worldCounts() {
        CHECKS.sentence("How many actors there are (what 0; 0 when nothing runs), OBJECTS made (1), CELLS taken (2), INSTRUCTIONS done (3), "
            + "numbers told (4), messages put in mailboxes (5; MAKERS' too)");
        ActorHouse house = CHECKS.started("class A{var n:int;new(){}}actor Main{var m:Main;new(){new A();tell 1;new W();this!b();this!b();}"
            + "be b(){}}actor W{new(){none;}}", 9, 1);
        world(house, 1, 0, 2, 0, 0, 1, 0, 0);
        house.step(0, 1);
        world(house, 1, 0, 2, 1, 0, 1, 0, 0);
        house.step(0, 1);
        world(house, 1, 1, 4, 2, 0, 1, 0, 0);
        house.step(0, 4);
        world(house, 1, 1, 4, 6, 1, 1, 0, 0);
        house.step(0, 1);
        world(house, 2, 1, 5, 7, 1, 2, 0, 0);
        house.step(0, 3);
        world(house, 2, 1, 5, 10, 1, 3, 0, 0);
        house.step(0, 2);
        world(house, 2, 1, 5, 12, 1, 3, 0, 0);
        house.step(0, 1);
        world(house, 2, 1, 5, 13, 1, 3, 1, 0);
        house.step(1, 4);
        world(house, 2, 1, 5, 17, 1, 3, 1, 0);
    }

    private static void actorNumbers() {
        CHECKS.sentence("NONE for another what, or without such an actor.");
        ActorHouse house = CHECKS.started("actor Main{new(){new W();}}actor W{new(){}}", 9, 1);
        house.step(0, 2);
        for (int what : new int[] {LEAST, -2, -1, 5, 6, GREATEST}) {
            CHECKS.same("actor(0, " + what + ")", house.actor(0, what), -1);
            CHECKS.same("actor(1, " + what + ")", house.actor(1, what), -1);
        }
        for (int actor : new int[] {LEAST, -2, -1, 2, 3, 11, 12, 13, GREATEST}) {
            for (int what = 0; what < 5; what++) {
                CHECKS.same("actor(" + actor + ", " + what + ")", house.actor(actor, what), -1);
            }
        }
        for (int what = 0; what < 5; what++) {
            CHECKS.isTrue("actor(1, " + what + ")", house.actor(1, what) >= 0);
        }
    }

    private static void actorCounts() {
        CHECKS.sentence("its KIND, from 0 (what 0), how many BODIES it is in (1; 0: IDLE), messages in its mailbox (2), INSTRUCTIONS it did (3), "
            + "the number of its latest FAIL (4; 0 without).");
        ActorHouse house = CHECKS.started("class A{new(){}}actor Main{var m:Main;new(){this.f();this!b();}fun ref f(){none;}be b(){this.m!b();}}"
            + "actor W{new(){}}", 9, 2);
        int[][] due = {{0, 1, 0, 0}, {1, 0, 1, 0}, {1, 0, 2, 0}, {2, 0, 3, 0}, {2, 0, 4, 0}, {2, 0, 5, 0}, {1, 0, 6, 0}, {1, 0, 7, 0},
            {1, 0, 8, 0}, {1, 1, 9, 0}, {1, 1, 10, 0}, {0, 1, 11, 0}, {1, 0, 12, 0}, {1, 0, 13, 0}, {1, 0, 14, 0}, {0, 0, 15, 1}};
        for (int i = 0; i < due.length; i++) {
            CHECKS.same("actor(0, 0)", house.actor(0, 0), 1);
            for (int what = 1; what < 5; what++) {
                CHECKS.same("actor(0, " + what + ") behind " + i + " instructions", house.actor(0, what), due[i][what - 1]);
            }
            house.step(0, 1);
        }
        CHECKS.same("nothing more was done", house.actor(0, 3), 15);
    }

    private static void actorsAtMostTwelve() {
        CHECKS.sentence("ACTORS are numbered 0, 1, .., at most 12; 0 is of Main.");
        for (int count = 9; count <= 14; count++) {
            ActorHouse house = CHECKS.started("actor Main{var n:int;new(){while this.n<" + count + "{this.n=this.n+1;new W(this.n);}tell 1;}}"
                + "actor W{new(n:int){tell n;}}", 50, 1);
            run(house, 0, 2);
            boolean fine = count <= 11;
            CHECKS.same("actors", house.world(0), fine ? count + 1 : 12);
            CHECKS.same("cells", house.world(2), 2 + Math.min(count, 11));
            CHECKS.same("messages", house.world(5), 1 + Math.min(count, 11));
            CHECKS.same("fails", house.world(7), fine ? 0 : 1);
            CHECKS.same("latest fail", house.actor(0, 4), fine ? 0 : 4);
            CHECKS.same("it went on", house.world(4), fine ? 1 : 0);
            CHECKS.shows(house, 0, 0, String.valueOf(Math.min(count, 12)));
            CHECKS.same("actor 11", house.actor(11, 0), count >= 11 ? 1 : -1);
            CHECKS.same("actor 12", house.actor(12, 0), -1);
        }
    }

    private static void actorsHaveNumbers() {
        CHECKS.sentence("ACTORS are numbered 0, 1, .., at most 12; 0 is of Main.");
        ActorHouse house = CHECKS.started("actor W{var a:W;var b:W;new(n:int){tell n;if n<5{this.a=new W(n*2);this.b=new W(n*2+1);}}}"
            + "actor Main{var w:W;new(){this.w=new W(1);}}", 50, 1);
        Checks.runAll(house);
        CHECKS.same("kind of actor 0", house.actor(0, 0), 1);
        CHECKS.same("kind of actor 1", house.actor(1, 0), 0);
        CHECKS.shows(house, 0, 0, "W@1");
        CHECKS.same("actors", house.world(0), 10);
        for (int k = 0; k < house.world(4); k++) {
            CHECKS.same("who told " + house.told(k, 0), house.told(k, 1) >= 1 && house.told(k, 1) <= 9 ? 1 : 0, 1);
        }
        CHECKS.shows(house, 1, 0, "W@2");
        CHECKS.shows(house, 1, 1, "W@3");
        CHECKS.same("the last one did its work", house.actor(9, 3) > 0 ? 1 : 0, 1);
    }

    private static void objectsHaveNumbers() {
        CHECKS.sentence("OBJECTS are numbered 1, 2, .. as they are made, by all actors together");
        ActorHouse house = CHECKS.started("class A{new(){}}class B{var a:ref A;new(){this.a=new A();}}actor Main{var a:ref A;var b:ref B;"
            + "new(){new W();this.a=new A();this.b=new B();}}actor W{var a:ref A;new(){this.a=new A();}}", 50, 1);
        house.step(0, 4);
        CHECKS.same("objects", house.world(1), 1);
        house.step(1, 2);
        CHECKS.same("objects", house.world(1), 2);
        Checks.runAll(house);
        CHECKS.same("objects", house.world(1), 4);
        CHECKS.shows(house, 0, 0, "A#1{}");
        CHECKS.shows(house, 1, 0, "A#2{}");
        CHECKS.shows(house, 0, 1, "B#3{a:A#4{}}");
    }

    private static void cellsOfObjects() {
        CHECKS.sentence("one (an actor, too) takes as many CELLS, for good, as it has fields and one more");
        for (int count = 0; count <= 8; count++) {
            String text = "class A{" + fields(count) + "new(){tell 1;}}actor Main{new(){new A();}}";
            for (int cells = 1; cells <= 12; cells++) {
                ActorHouse house = CHECKS.started(text, cells, 1);
                house.step(0, 200);
                boolean fine = cells >= count + 2;
                CHECKS.same("cells taken of " + cells, house.world(2), fine ? count + 2 : 1);
                CHECKS.same("objects", house.world(1), fine ? 1 : 0);
                CHECKS.same("latest fail", house.actor(0, 4), fine ? 0 : 2);
                CHECKS.same("told", house.world(4), fine ? 1 : 0);
            }
        }
    }

    private static void cellsOfActors() {
        CHECKS.sentence("one (an actor, too) takes as many CELLS, for good, as it has fields and one more");
        for (int count = 0; count <= 8; count++) {
            String text = "actor W{" + fields(count) + "new(){tell 1;}}actor Main{new(){new W();}}";
            for (int cells = 1; cells <= 12; cells++) {
                ActorHouse house = CHECKS.started(text, cells, 1);
                Checks.runAll(house);
                boolean fine = cells >= count + 2;
                CHECKS.same("cells taken of " + cells, house.world(2), fine ? count + 2 : 1);
                CHECKS.same("actors", house.world(0), fine ? 2 : 1);
                CHECKS.same("messages", house.world(5), fine ? 2 : 1);
                CHECKS.same("latest fail", house.actor(0, 4), fine ? 0 : 2);
                CHECKS.same("objects", house.world(1), 0);
            }
        }
    }

    private static void cellsForGood() {
        CHECKS.sentence("takes as many CELLS, for good, as it has fields and one more (copies take none)");
        ActorHouse house = CHECKS.started(KINDS + "actor Main{new(){this!e();while 1{new F();}}be e(){while 1{new E();}}}", 400, 1);
        while (house.world(7) == 0 && house.world(3) < 20000) {
            house.step(0, 1);
        }
        world(house, 1, 44, 397);
        CHECKS.same("a tenth part of them is left", house.actor(0, 4), 2);
        run(house, 0, 1);
        world(house, 1, 47, 400);
        CHECKS.same("fails", house.world(7), 2);
        house = CHECKS.started("class A{var n:int;new(){}}actor Main{new(){this!b(new val A(),new iso A());}be b(v:val A,i:iso A){"
            + "if this.more(){this!b(v,consume i);}}fun ref more():int{return 1;}}", 5, 2);
        run(house, 0, 5);
        CHECKS.isTrue("many copies", house.world(5) > 40);
        CHECKS.same("cells", house.world(2), 5);
        CHECKS.same("objects", house.world(1), 2);
        CHECKS.same("fails", house.world(7), 0);
    }

    private static void lastCell() {
        CHECKS.sentence("2 more CELLS than there are");
        for (int cells = 392; cells <= 400; cells++) {
            ActorHouse house = CHECKS.started(KINDS + "actor Main{new(){while 1{new F();}}}", cells, 1);
            run(house, 0, 5);
            CHECKS.same("cells of " + cells, house.world(2), 1 + (cells - 1) / 9 * 9);
            CHECKS.same("fails", house.actor(0, 4), 2);
        }
    }

    private static void lastObject() {
        CHECKS.sentence("2 more CELLS than there are");
        ActorHouse house = CHECKS.started("class A{new(){}}actor W{var a:ref A;new(){while 1{this.a=new A();}}}actor Main{new(){new W();}}", 400, 1);
        house.step(0, 10);
        run(house, 1, 12);
        world(house, 2, 397, 400);
        CHECKS.shows(house, 1, 0, "A#397{}");
        CHECKS.same("the next one fails", house.actor(1, 4), 2);
        house = CHECKS.started("class A{new(){}}actor Main{new(){while 1{this.b(new A());}}fun ref b(a:ref A){}}", 400, 1);
        run(house, 0, 20);
        world(house, 1, 399, 400);
        CHECKS.same("the next one fails", house.actor(0, 4), 2);
    }

    private static void freshFields() {
        CHECKS.sentence("its fields are 0 or none");
        String text = "class A{var n:int;var a:iso A;var b:box A;var m:Main;new(k:int){if k{this.n=7;this.a=new iso A(0);this.b=new A(0);}}}"
            + "actor Main{var k:int;var a:ref A;var m:Main;new(){this.a=new A(1);this.k=3;this.m=this;}be b(){}}";
        ActorHouse house = CHECKS.built(text);
        for (int round = 0; round < 3; round++) {
            CHECKS.isTrue("start", house.start(40, 1));
            CHECKS.shows(house, 0, 0, "0");
            CHECKS.shows(house, 0, 1, "none");
            CHECKS.shows(house, 0, 2, "none");
            house.step(0, 200);
            CHECKS.shows(house, 0, 1, "A#1{n:7,a:A#2{n:0,a:none,b:none,m:none},b:A#3{n:0,a:none,b:none,m:none},m:none}");
            CHECKS.shows(house, 0, 2, "Main@0");
        }
    }

    private static void bodiesOfCalls() {
        CHECKS.sentence("its body, with what it calls (BODIES in one another, at most 10)");
        for (int k = 6; k <= 12; k++) {
            ActorHouse house = CHECKS.started("actor Main{var n:int;new(){this.f(" + k + ");tell 1;}fun ref f(k:int){this.n=this.n+1;"
                + "if 1<k{this.f(k-1);}}}", 9, 1);
            int most = 0;
            while (house.step(0, 1) == 1) {
                most = Math.max(most, house.actor(0, 1));
            }
            boolean fine = k <= 9;
            CHECKS.same("most bodies of " + (k + 1), most, fine ? k + 1 : 10);
            CHECKS.same("latest fail", house.actor(0, 4), fine ? 0 : 3);
            CHECKS.same("fails", house.world(7), fine ? 0 : 1);
            CHECKS.same("told", house.world(4), fine ? 1 : 0);
            CHECKS.shows(house, 0, 0, String.valueOf(Math.min(k, 9)));
        }
    }

    private static void bodiesOfMakers() {
        CHECKS.sentence("3 an eleventh BODY");
        for (int k = 7; k <= 11; k++) {
            ActorHouse house = CHECKS.started("class A{var a:ref A;new(k:int){if 1<k{this.a=new A(k-1);}}}actor Main{var a:ref A;new(){"
                + "this.a=new A(" + k + ");tell 1;}}", 99, 1);
            run(house, 0, 2);
            boolean fine = k <= 9;
            CHECKS.same("objects", house.world(1), Math.min(k, 9));
            CHECKS.same("cells", house.world(2), 2 + 2 * Math.min(k, 9));
            CHECKS.same("latest fail", house.actor(0, 4), fine ? 0 : 3);
            CHECKS.same("told", house.world(4), fine ? 1 : 0);
            house.show(0, 0);
            CHECKS.same("show", Checks.output(house).startsWith(fine ? "A#1" : "none") ? 1 : 0, 1);
        }
    }

    private static void bodiesEnd() {
        CHECKS.sentence("BODIES in one another, at most 10");
        ActorHouse house = CHECKS.started("actor Main{var n:int;new(){while this.n<50{this.f(8);this.n=this.n+1;}this!b();}"
            + "fun ref f(k:int):int{if k{this.f(k-1);}return k;}be b(){tell this.f(8);}}", 9, 1);
        run(house, 0, 50);
        CHECKS.same("fails", house.world(7), 0);
        told(house, "8@0");
    }

    private static void mailboxesOfEachSize() {
        CHECKS.sentence("If the mailbox is full, that was an instruction that did nothing, and it is the next one again.");
        for (int size = 1; size <= 6; size++) {
            ActorHouse house = CHECKS.started("actor Main{new(){var w:W=new W();var k:int=1;while k<9{w!a(k);k=k+1;}}}actor W{new(){}"
                + "be a(n:int){tell n;}}", 9, size);
            for (int i = 0; house.world(6) == 0 && i < 500; i++) {
                house.step(0, 1);
            }
            CHECKS.same("messages that waited", house.actor(1, 2), size);
            CHECKS.same("messages that were put", house.world(5), 1 + size);
            CHECKS.peeks(house, 1, size - 1, size == 1 ? "new()" : "a(" + (size - 1) + ")");
            int done = house.world(3);
            CHECKS.same("again", house.step(0, 10), 10);
            CHECKS.same("it is full as often", house.world(6), 11);
            CHECKS.same("these are instructions", house.world(3), done + 10);
            CHECKS.same("no message was put", house.world(5), 1 + size);
            house.step(1, 1);
            CHECKS.same("one was taken", house.actor(1, 2), size - 1);
            house.step(0, 1);
            CHECKS.same("one was put", house.actor(1, 2), size);
            CHECKS.same("it was not full", house.world(6), 11);
            Checks.runAll(house);
            told(house, "1@1,2@1,3@1,4@1,5@1,6@1,7@1,8@1");
        }
    }

    private static void mailboxHasMaker() {
        CHECKS.sentence("A MAILBOX has messages, in order; the MAKER of an actor is its first one.");
        ActorHouse house = CHECKS.started("actor Main{new(){new W(5)!a();}}actor W{var n:int;new(n:int){this.n=n;}be a(){tell this.n;}}", 9, 1);
        CHECKS.peeks(house, 0, 0, "new()");
        house.step(0, 6);
        CHECKS.peeks(house, 1, 0, "new(5)");
        CHECKS.same("the next one meets a full mailbox", house.world(6) > 0 ? 1 : 0, 1);
        house.step(1, 200);
        house.step(0, 200);
        house.step(1, 200);
        told(house, "5@1");
    }

    private static void mailboxInOrder() {
        CHECKS.sentence("A MAILBOX has messages, in order");
        ActorHouse house = CHECKS.started("actor Main{new(){this!a(1);this!b(2);this!a(3);this!b(4);this!a(5);this!b(6);}be a(n:int){tell n;}"
            + "be b(n:int){tell n*10;}}", 9, 6);
        house.step(0, 1 + 6 * 4);
        for (int k = 0; k < 6; k++) {
            CHECKS.peeks(house, 0, k, (k % 2 == 0 ? "a(" : "b(") + (k + 1) + ")");
        }
        CHECKS.same("no seventh", house.peek(0, 6), -1);
        Checks.runAll(house);
        told(house, "1@0,20@0,3@0,40@0,5@0,60@0");
    }

    /** Many messages, so that every place of a mailbox is used again and again. */
    private static void mailboxGoesRound() {
        CHECKS.sentence("A MAILBOX has messages, in order");
        for (int size = 1; size <= 6; size++) {
            ActorHouse house = CHECKS.started("actor Main{new(){var w:W=new W();var k:int=0;while k<30{w!a(k,k*2);k=k+1;}}}actor W{var n:int;"
                + "new(){}be a(n:int,m:int){if n==this.n{this.n=this.n+1;tell m;}}}", 9, size);
            Checks.runAll(house);
            CHECKS.same("told", house.world(4), 30);
            CHECKS.same("the last", house.told(29, 0), 58);
        }
    }

    private static void sixMessagesOfSix() {
        CHECKS.sentence("PARAMETERS: at most 6");
        StringBuilder sends = new StringBuilder();
        for (int k = 1; k <= 6; k++) {
            sends.append("w!a(").append(k + "1," + k + "2," + k + "3," + k + "4," + k + "5," + k + "6);");
        }
        ActorHouse house = CHECKS.started("actor Main{new(){var w:W=new W(1,2,3,4,5,6);" + sends + "}}actor W{new(a:int,b:int,c:int,d:int,"
            + "e:int,f:int){tell a+(b*10)+(c*100)+(d*1000)+(e*10000)+(f*100000);}be a(a:int,b:int,c:int,d:int,e:int,f:int){"
            + "tell a;tell b;tell c;tell d;tell e;tell f;}}", 9, 6);
        run(house, 0, 1);
        CHECKS.peeks(house, 1, 0, "new(1,2,3,4,5,6)");
        for (int k = 1; k <= 5; k++) {
            CHECKS.peeks(house, 1, k, "a(" + k + "1," + k + "2," + k + "3," + k + "4," + k + "5," + k + "6)");
        }
        house.step(1, 1);
        house.step(0, 1);
        for (int k = 1; k <= 6; k++) {
            CHECKS.peeks(house, 1, k - 1, "a(" + k + "1," + k + "2," + k + "3," + k + "4," + k + "5," + k + "6)");
        }
        Checks.runAll(house);
        CHECKS.same("told(0, 0)", house.told(0, 0), 654321);
        for (int i = 0; i < 36; i++) {
            CHECKS.same("told(" + (i + 1) + ", 0)", house.told(i + 1, 0), (i / 6 + 1) * 10 + i % 6 + 1);
        }
    }

    /** The arguments are not done again. */
    private static void fullDoesNothing() {
        CHECKS.sentence("If the mailbox is full, that was an instruction that did nothing, and it is the next one again.");
        ActorHouse house = CHECKS.started("class A{new(){}}actor Main{var n:int;new(){var w:W=new W();w!a(this.next(),new iso A());}"
            + "fun ref next():int{this.n=this.n+1;return this.n;}}actor W{new(){}be a(n:int,a:iso A){tell n;}}", 9, 1);
        run(house, 0, 2);
        CHECKS.shows(house, 0, 0, "1");
        CHECKS.same("bodies", house.actor(0, 1), 1);
        CHECKS.same("objects", house.world(1), 1);
        CHECKS.same("messages", house.world(5), 2);
        CHECKS.same("instructions", house.world(3), 400);
        int fulls = house.world(6);
        house.step(1, 2);
        CHECKS.same("then the message is put", house.step(0, 1), 1);
        CHECKS.same("it was not full", house.world(6), fulls);
        CHECKS.peeks(house, 1, 0, "a(1,A#1{})");
        CHECKS.same("what is left: an EXPR alone, and the end", house.step(0, 200), 2);
        Checks.runAll(house);
        told(house, "1@1");
        CHECKS.same("fails", house.world(7), 0);
    }

    private static void fullThenNone() {
        CHECKS.sentence("1 what is ahead of . or ! is none");
        ActorHouse house = CHECKS.started("actor Main{var m:Main;new(){this!b();this.m!b();tell 1;}be b(){}}", 9, 1);
        house.step(0, 200);
        CHECKS.same("fulls", house.world(6), 0);
        CHECKS.same("fails", house.world(7), 1);
        CHECKS.same("told", house.world(4), 0);
    }

    private static void idle() {
        CHECKS.sentence("an IDLE actor takes its first message.");
        ActorHouse house = CHECKS.started("actor Main{new(){this!b();}be b(){tell 1;}}", 9, 1);
        CHECKS.same("bodies", house.actor(0, 1), 0);
        CHECKS.same("step", house.step(0, 1), 1);
        CHECKS.same("bodies", house.actor(0, 1), 1);
        CHECKS.same("mailbox", house.actor(0, 2), 0);
        CHECKS.same("step", house.step(0, 4), 4);
        CHECKS.same("IDLE", house.actor(0, 1), 0);
        CHECKS.same("mailbox", house.actor(0, 2), 1);
        CHECKS.same("step", house.step(0, 1), 1);
        CHECKS.same("bodies", house.actor(0, 1), 1);
        CHECKS.same("mailbox", house.actor(0, 2), 0);
        CHECKS.same("step", house.step(0, 200), 3);
        CHECKS.same("IDLE", house.actor(0, 1), 0);
        CHECKS.same("nothing to do", house.step(0, 200), 0);
    }

    private static void notZero() {
        CHECKS.sentence("into the BLOCK if it is not 0");
        String greatest = "999999999+999999999+147483649";
        String[] numbers = {"0", "1", "0-1", "2", "256", "65536", "0-256", greatest, greatest + "+1", "1-1", greatest + "+1*2"};
        int[] values = {0, 1, -1, 2, 256, 65536, -256, GREATEST, LEAST, 0, 0};
        for (int i = 0; i < numbers.length; i++) {
            ActorHouse house = CHECKS.started("actor Main{new(){var x:int=" + numbers[i] + ";if x{tell 1;}if x{tell 2;}else{tell 3;}"
                + "while x{tell 4;x=0;}tell 5;}}", 1, 1);
            Checks.runAll(house);
            CHECKS.same("told for " + values[i], Checks.told(house).replace("@0", ""), values[i] != 0 ? "1,2,4,5" : "3,5");
        }
    }

    private static void whileBeginsAgain() {
        CHECKS.sentence("a while begins again behind its BLOCK");
        for (int count = 0; count <= 3; count++) {
            ActorHouse house = CHECKS.started("actor Main{new(){var x:int=" + count + ";while x{x=x-1;tell x;}}}", 1, 1);
            CHECKS.same("instructions of " + count, house.step(0, 200), 1 + 2 + count * (2 + 4 + 2) + 2 + 1);
            CHECKS.same("told", house.world(4), count);
        }
    }

    private static void hasGivesOne() {
        CHECKS.sentence("gives int (1 for what is not none, else 0)");
        ActorHouse house = CHECKS.started("class A{new(){}}actor Main{var a:ref A;var w:W;new(){new A();new A();this.a=new A();new W();new W();"
            + "this.w=new W();tell has(this.a);tell has(this.w);tell has(this);tell has(none);tell has(new A());tell has(new W());"
            + "tell has(swap(this.a,none));tell has(this.a);tell has(swap(this.w,none));tell has(this.w);}}actor W{new(){}}", 40, 1);
        run(house, 0, 2);
        CHECKS.same("told", Checks.told(house).replace("@0", ""), "1,1,1,0,1,1,1,0,1,0");
    }

    private static void numbersWrap() {
        CHECKS.sentence("Numbers wrap.");
        ActorHouse house = CHECKS.started("actor Main{new(){var g:int=999999999+999999999+147483649;var l:int=0-g-1;tell g;tell l;tell g+1;"
            + "tell l-1;tell 0-l;tell g+g;tell l+l;tell g*2;tell g*g;tell l*l;tell l*(0-1);tell l*g;tell g-l;tell l-g;tell g*999999999;"
            + "tell 65536*65536;tell 46341*46341;tell 0-1*(0-1);}}", 1, 1);
        run(house, 0, 2);
        int g = GREATEST;
        int l = LEAST;
        int[] due = {g, l, g + 1, l - 1, -l, g + g, l + l, g * 2, g * g, l * l, l * -1, l * g, g - l, l - g, g * 999999999,
            65536 * 65536, 46341 * 46341, 1};
        for (int k = 0; k < due.length; k++) {
            CHECKS.same("told(" + k + ", 0)", house.told(k, 0), due[k]);
        }
        CHECKS.same("told", house.world(4), due.length);
    }

    private static void comparisons() {
        CHECKS.sentence("(== and < give 1 or 0)");
        int[] values = {LEAST, LEAST + 1, -1, 0, 1, GREATEST - 1, GREATEST};
        String[] texts = {"l", "l+1", "0-1", "0", "1", "g-1", "g"};
        for (int a = 0; a < values.length; a++) {
            StringBuilder steps = new StringBuilder("var g:int=999999999+999999999+147483649;var l:int=g+1;var a:int=" + texts[a] + ";");
            StringBuilder due = new StringBuilder();
            for (int b = 0; b < values.length; b++) {
                steps.append("tell a<(").append(texts[b]).append(");tell a==(").append(texts[b]).append(");");
                due.append(b == 0 ? "" : ",").append(values[a] < values[b] ? 1 : 0).append(",").append(a == b ? 1 : 0);
            }
            ActorHouse house = CHECKS.started("actor Main{new(){" + steps + "}}", 1, 1);
            run(house, 0, 2);
            CHECKS.same("told of " + values[a], Checks.told(house).replace("@0", ""), due.toString());
        }
    }

    private static void failOne() {
        CHECKS.sentence("1 what is ahead of . or ! is none");
        String[] steps = {"tell this.a.n;", "this.a.n=1;", "swap(this.a.n,1);", "this.a.f();", "this.m!b();", "var a:ref A=none;a.f();",
            "tell this.a.a.n;", "new A().a.n;", "new A().a.n=2;", "this.a=new A();this.a.a.f();"};
        for (String step : steps) {
            ActorHouse house = CHECKS.started("class A{var n:int;var a:ref A;new(){}fun ref f(){}}actor Main{var a:ref A;var m:Main;new(){"
                + step + "tell 9;}be b(){}}", 40, 2);
            run(house, 0, 1);
            CHECKS.same("latest fail of " + step, house.actor(0, 4), 1);
            CHECKS.same("fails of " + step, house.world(7), 1);
            CHECKS.same("told of " + step, house.world(4), 0);
            CHECKS.same("IDLE behind " + step, house.actor(0, 1), 0);
            CHECKS.same("messages behind " + step, house.world(5), 1);
        }
        ActorHouse house = CHECKS.started("class A{var n:int;var a:ref A;new(){}}actor Main{var a:ref A;new(){has(this.a);swap(this.a,new A());"
            + "this.a.a;this.a.a=none;swap(this.a.a,none);tell this.a.n;}}", 40, 2);
        run(house, 0, 1);
        CHECKS.same("none itself does not fail", house.world(7), 0);
        told(house, "0@0");
    }

    private static void failTwo() {
        CHECKS.sentence("2 more CELLS than there are");
        for (int cells = 9; cells <= 12; cells++) {
            for (String made : new String[] {"new F();", "new G();"}) {
                ActorHouse house = CHECKS.started(KINDS + "actor Main{new(){" + made + "tell 9;}}", cells, 1);
                run(house, 0, 1);
                CHECKS.same("latest fail", house.actor(0, 4), cells >= 10 ? 0 : 2);
                CHECKS.same("told", house.world(4), cells >= 10 ? 1 : 0);
                CHECKS.same("cells", house.world(2), cells >= 10 ? 10 : 1);
            }
        }
        ActorHouse house = CHECKS.started(KINDS + "actor Main{new(){this!b();new F();}be b(){new E();tell 9;}}", 9, 1);
        run(house, 0, 1);
        CHECKS.same("the next message has cells enough", house.world(4), 1);
        CHECKS.same("cells", house.world(2), 2);
        CHECKS.same("objects", house.world(1), 1);
    }

    private static String deep(int bodies, String step) {
        return "class A{var n:int;new(){}fun ref g(){}}class E{new(){}}actor Main{var a:ref A;new(){this.f(" + (bodies - 2)
            + ");}fun ref f(k:int){if k{this.f(k-1);}else{" + step + "tell 9;}}}";
    }

    private static int failOf(String text, int cells) {
        ActorHouse house = CHECKS.started(text, cells, 1);
        run(house, 0, 2);
        CHECKS.same("told " + text, house.world(4), house.actor(0, 4) == 0 ? 1 : 0);
        return house.actor(0, 4);
    }

    private static void failThreeAndOne() {
        CHECKS.sentence("3 an eleventh BODY (asked behind 1, ahead of 2)");
        CHECKS.same("call of none in the tenth", failOf(deep(10, "this.a.g();"), 9), 1);
        CHECKS.same("call of none in the ninth", failOf(deep(9, "this.a.g();"), 9), 1);
        CHECKS.same("call in the tenth", failOf(deep(10, "this.f(0);"), 9), 3);
        CHECKS.same("call in the ninth, which goes on", failOf(deep(9, "this.f(0);"), 9), 3);
        CHECKS.same("field of none in the tenth", failOf(deep(10, "this.a.n;"), 9), 1);
    }

    private static void failThreeAndTwo() {
        CHECKS.sentence("3 an eleventh BODY (asked behind 1, ahead of 2)");
        CHECKS.same("new in the tenth, without cells", failOf(deep(10, "new A();"), 2), 3);
        CHECKS.same("new in the tenth, with one too few", failOf(deep(10, "new A();"), 3), 3);
        CHECKS.same("new in the tenth, with cells", failOf(deep(10, "new A();"), 9), 3);
        CHECKS.same("new in the ninth, without cells", failOf(deep(9, "new A();"), 2), 2);
        CHECKS.same("new in the ninth, with one too few", failOf(deep(9, "new A();"), 3), 2);
        CHECKS.same("new in the ninth, with cells", failOf(deep(9, "new A();"), 4), 0);
        CHECKS.same("new of an actor in the tenth", failOf(deep(10, "new Main();"), 9), 0);
        CHECKS.same("new of an actor in the tenth, without cells", failOf(deep(10, "new Main();"), 3), 2);
    }

    private static void failFour() {
        CHECKS.sentence("4 a thirteenth actor (ahead of 2)");
        for (int cells = 11; cells <= 14; cells++) {
            ActorHouse house = CHECKS.started("actor Main{new(){while 1{new W();}}}actor W{new(){}}", cells, 1);
            run(house, 0, 1);
            CHECKS.same("latest fail with " + cells + " cells", house.actor(0, 4), cells < 12 ? 2 : 4);
            CHECKS.same("actors with " + cells + " cells", house.world(0), Math.min(cells, 12));
            CHECKS.same("cells", house.world(2), Math.min(cells, 12));
            CHECKS.same("messages", house.world(5), Math.min(cells, 12));
        }
        ActorHouse house = CHECKS.started(KINDS + "actor Main{var n:int;new(){while this.n<11{this.n=this.n+1;new W();}this!b();new G();}"
            + "be b(){new E();tell 9;}}actor W{new(){}}", 14, 1);
        run(house, 0, 2);
        CHECKS.same("the latest fail", house.actor(0, 4), 4);
        CHECKS.same("objects can be made still", house.world(4), 1);
    }

    private static void failChangesNothing() {
        CHECKS.sentence("An instruction that FAILS is done, but changes nothing else");
        ActorHouse house = CHECKS.started(KINDS + "actor Main{var n:int;var f:ref F;var m:Main;new(){this.n=4;this.f=new F();}}", 9, 1);
        CHECKS.same("instructions", house.step(0, 200), 1 + 3 + 1);
        world(house, 1, 0, 4, 5, 0, 1, 0, 1);
        CHECKS.shows(house, 0, 0, "4");
        CHECKS.shows(house, 0, 1, "none");
        house = CHECKS.started("actor Main{var n:int;var m:Main;new(){this.n=4;this.m!b(swap(this.n,5));}be b(n:int){}}", 9, 1);
        CHECKS.same("instructions", house.step(0, 200), 1 + 3 + 3 + 3);
        world(house, 1, 0, 3, 10, 0, 1, 0, 1);
        CHECKS.shows(house, 0, 0, "5");
    }

    private static void failEndsTheMessage() {
        CHECKS.sentence("and with it ends the message: the actor is IDLE");
        ActorHouse house = CHECKS.started("actor Main{var m:Main;var n:int;new(){this!a(1);this!c(3);this!a(2);}be a(k:int){tell this.n*10+k;}"
            + "be c(k:int){var x:int=this.f(k);tell 7;}"
            + "fun ref f(k:int):int{if k==0{this.m!a(9);}this.n=this.n+1;return this.f(k-1)+1;}}", 9, 4);
        run(house, 0, 2);
        told(house, "1@0,32@0");
        CHECKS.same("fails", house.world(7), 1);
        CHECKS.same("latest", house.actor(0, 4), 1);
        CHECKS.same("IDLE", house.actor(0, 1), 0);
        CHECKS.same("mailbox", house.actor(0, 2), 0);
    }

    private static void latestFail() {
        CHECKS.sentence("the number of its latest FAIL (4; 0 without)");
        ActorHouse house = CHECKS.started("class F{var a:int;var b:int;new(){}}actor Main{var m:Main;new(){this!a();this!b();this!c();this!a();}"
            + "be a(){this.m!a();}be b(){this.b2();}fun ref b2(){this.b2();}be c(){while 1{new F();}}}", 9, 4);
        int[] seen = new int[5];
        int count = 0;
        int last = 0;
        while (house.step(0, 1) == 1 && count < 5) {
            if (house.world(7) > last) {
                last = house.world(7);
                seen[count] = house.actor(0, 4);
                count++;
            }
            CHECKS.same("latest fail", house.actor(0, 4), count == 0 ? 0 : seen[count - 1]);
        }
        CHECKS.same("fails", count, 4);
        CHECKS.same("the first", seen[0], 1);
        CHECKS.same("the second", seen[1], 3);
        CHECKS.same("the third", seen[2], 2);
        CHECKS.same("the fourth", seen[3], 1);
    }
}
