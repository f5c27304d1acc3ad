/** Promises 12 (told), 13 (show), 14 (peek) and 15 (letter), and what a message brings. */
public final class OutputTest {
    private static final Checks CHECKS = new Checks();

    public static void main(String[] args) {
        told();
        toldBeyond();
        values();
        objects();
        cycles();
        nothingThere();
        peeks();
        peekOfShared();
        longOutput();
        deepOutput();
        messagesBringWhatTheyBring();
        numbersStay();
        CHECKS.finish();
    }

    private static void told() {
        ActorHouse house = CHECKS.started("actor Main{new(){tell 7;tell 0-3;new W();}}actor W{new(){tell 8;}}", 9, 1);
        CHECKS.same("told(0, 0) ahead of all", house.told(0, 0), 0);
        Checks.runAll(house);
        CHECKS.same("world(4)", house.world(4), 3);
        CHECKS.same("told(0, 0)", house.told(0, 0), 7);
        CHECKS.same("told(1, 0)", house.told(1, 0), -3);
        CHECKS.same("told(2, 0)", house.told(2, 0), 8);
        CHECKS.same("told(0, 1)", house.told(0, 1), 0);
        CHECKS.same("told(2, 1)", house.told(2, 1), 1);
        CHECKS.same("told(3, 0)", house.told(3, 0), 0);
        CHECKS.same("told(-1, 0)", house.told(-1, 0), 0);
        CHECKS.same("told(0, 2)", house.told(0, 2), 0);
        CHECKS.same("told(0, -1)", house.told(0, -1), 0);
        CHECKS.same("told of the greatest int", house.told(Integer.MAX_VALUE, 0), 0);
    }

    private static void toldBeyond() {
        ActorHouse house = CHECKS.started("actor Main{var n:int;new(){while 1{this.n=this.n+1;tell this.n;}}}", 9, 1);
        for (int i = 0; i < 13; i++) {
            house.step(0, 200);
        }
        CHECKS.same("more than 200 were told", house.world(4), (13 * 200 - 1) / 11);
        CHECKS.same("the 200th", house.told(199, 0), 200);
        CHECKS.same("the 201st is not kept", house.told(200, 0), 0);
        CHECKS.same("nor its actor", house.told(200, 1), 0);
    }

    private static void values() {
        ActorHouse house = CHECKS.started("class A{new(){}}actor Main{var n:int;var m:int;var a:ref A;var w:W;var v:W;var k:int;"
            + "new(){this.m=0-999999999-999999999-147483650;this.v=new W();this.w=none;this.k=1000;}}actor W{new(){}}", 20, 1);
        Checks.runAll(house);
        CHECKS.shows(house, 0, 0, "0");
        CHECKS.shows(house, 0, 1, "-2147483648");
        CHECKS.shows(house, 0, 2, "none");
        CHECKS.shows(house, 0, 3, "none");
        CHECKS.shows(house, 0, 4, "W@1");
        CHECKS.shows(house, 0, 5, "1000");
        CHECKS.same("letter(0)", house.letter(0), '1');
        CHECKS.same("letter(3)", house.letter(3), '0');
        CHECKS.same("letter(4)", house.letter(4), 0);
        CHECKS.same("letter(-1)", house.letter(-1), 0);
        CHECKS.same("letter of the least int", house.letter(Integer.MIN_VALUE), 0);
        CHECKS.same("letter of the greatest int", house.letter(Integer.MAX_VALUE), 0);
    }

    private static void objects() {
        ActorHouse house = CHECKS.started("class Em{new(){}}class Pt{var x:int;var yy:ref Em;var m:Main;new(x:int){this.x=x;}}"
            + "actor Main{var a:ref Pt;var e:val Em;new(){this.e=new val Em();this.a=new Pt(0-5);this.a.yy=new Em();this.a.m=this;}}",
            20, 1);
        Checks.runAll(house);
        CHECKS.shows(house, 0, 0, "Pt#2{x:-5,yy:Em#3{},m:Main@0}");
        CHECKS.shows(house, 0, 1, "Em#1{}");
    }

    private static void cycles() {
        ActorHouse house = CHECKS.started("class A{var a:ref A;var b:ref A;new(){}}"
            + "actor Main{var a:ref A;new(){this.a=new A();this.a.a=this.a;this.a.b=new A();this.a.b.a=this.a;"
            + "this.a.b.b=this.a.b;}}", 20, 1);
        Checks.runAll(house);
        CHECKS.shows(house, 0, 0, "A#1{a:A#1,b:A#2{a:A#1,b:A#2}}");
        CHECKS.shows(house, 0, 0, "A#1{a:A#1,b:A#2{a:A#1,b:A#2}}");
    }

    private static void nothingThere() {
        ActorHouse house = CHECKS.started("actor Main{var n:int;new(){}}", 9, 1);
        CHECKS.shows(house, 0, 0, "0");
        CHECKS.same("letter of it", house.letter(0), '0');
        CHECKS.same("show(0, 1)", house.show(0, 1), -1);
        CHECKS.same("no output then", house.letter(0), 0);
        CHECKS.shows(house, 0, 0, "0");
        CHECKS.same("show(0, -1)", house.show(0, -1), -1);
        CHECKS.same("no output then", house.letter(0), 0);
        CHECKS.same("show(1, 0)", house.show(1, 0), -1);
        CHECKS.same("show(-1, 0)", house.show(-1, 0), -1);
        CHECKS.peeks(house, 0, 0, "new()");
        CHECKS.same("peek(0, 1)", house.peek(0, 1), -1);
        CHECKS.same("no output then", house.letter(0), 0);
        CHECKS.peeks(house, 0, 0, "new()");
        CHECKS.same("peek(0, -1)", house.peek(0, -1), -1);
        CHECKS.same("no output then", house.letter(0), 0);
        CHECKS.same("peek(1, 0)", house.peek(1, 0), -1);
        CHECKS.same("peek(-1, 0)", house.peek(-1, 0), -1);
        house.step(0, 1);
        CHECKS.same("peek of what was taken", house.peek(0, 0), -1);
        CHECKS.shows(house, 0, 0, "0");
        house.step(0, 1);
        house.feed(1, 2, 3, 4, 5);
        CHECKS.same("the output stays behind a step", house.letter(0), '0');
    }

    private static void peeks() {
        ActorHouse house = CHECKS.started("class A{var n:int;new(n:int){this.n=n;}}"
            + "actor Main{new(){var w:W=new W(1,none,this);w!be1(new iso A(4),none,0-1,w);w!two();}}"
            + "actor W{new(n:int,a:iso A,m:Main){}be be1(a:iso A,b:val A,n:int,w:W){}be two(){}}", 20, 6);
        CHECKS.peeks(house, 0, 0, "new()");
        house.step(0, 200);
        CHECKS.peeks(house, 1, 0, "new(1,none,Main@0)");
        CHECKS.peeks(house, 1, 1, "be1(A#1{n:4},none,-1,W@1)");
        CHECKS.peeks(house, 1, 2, "two()");
        house.step(1, 2);
        CHECKS.peeks(house, 1, 0, "be1(A#1{n:4},none,-1,W@1)");
    }

    private static void peekOfShared() {
        ActorHouse house = CHECKS.started("class A{var n:int;var a:val A;new(n:int,a:val A){this.n=n;this.a=a;}}"
            + "actor Main{new(){var x:val A=new val A(1,none);var y:val A=new val A(2,x);new W()!b(x,y,x,new val A(3,y));}}"
            + "actor W{new(){}be b(p:val A,q:val A,r:val A,s:val A){}}", 20, 6);
        house.step(0, 200);
        CHECKS.peeks(house, 1, 1, "b(A#1{n:1,a:none},A#2{n:2,a:A#1},A#1,A#3{n:3,a:A#2})");
    }

    private static void longOutput() {
        StringBuilder fields = new StringBuilder();
        StringBuilder sets = new StringBuilder();
        for (int i = 0; i < 7; i++) {
            fields.append("var abcdefg").append(i).append(":int;");
            sets.append("this.abcdefg").append(i).append("=0-999999999;");
        }
        ActorHouse house = CHECKS.started("class A{" + fields + "var a:ref A;new(){" + sets + "}}"
            + "actor Main{var a:ref A;var n:int;new(){while this.n<40{var x:ref A=new A();x.a=this.a;this.a=x;this.n=this.n+1;}}}",
            400, 1);
        for (int i = 0; i < 20; i++) {
            house.step(0, 200);
        }
        StringBuilder due = new StringBuilder("none");
        for (int k = 1; k <= 40; k++) {
            StringBuilder one = new StringBuilder("A#" + k + "{");
            for (int i = 0; i < 7; i++) {
                one.append("abcdefg").append(i).append(":-999999999,");
            }
            due.insert(0, one.append("a:")).append("}");
        }
        CHECKS.same("it is long", house.show(0, 0), due.length());
        CHECKS.isTrue("longer than what is kept", due.length() > 3000);
        CHECKS.same("the first 3000 are kept", Checks.output(house), due.substring(0, 3000));
        CHECKS.same("letter(2999)", house.letter(2999), due.charAt(2999));
        CHECKS.same("letter(3000)", house.letter(3000), 0);
        CHECKS.shows(house, 0, 1, "40");
    }

    private static void deepOutput() {
        ActorHouse house = CHECKS.started("class A{var a:ref A;new(a:ref A){this.a=a;}}"
            + "actor Main{var a:ref A;new(){while 1{this.a=new A(this.a);}}}", 400, 1);
        for (int i = 0; i < 20; i++) {
            house.step(0, 200);
        }
        StringBuilder due = new StringBuilder("none");
        for (int k = 1; k <= 199; k++) {
            due.insert(0, "A#" + k + "{a:").append("}");
        }
        CHECKS.shows(house, 0, 0, due.toString());
    }

    /** What is sent is as it was when it was sent, whatever the sender does later. */
    private static void messagesBringWhatTheyBring() {
        ActorHouse house = CHECKS.started("class A{var n:int;var a:iso A;new(n:int){this.n=n;}}"
            + "actor Main{var a:iso A;var v:val A;var w:W;new(){this.w=new W(this);this.a=new iso A(1);this.a.a=new iso A(2);"
            + "this.w!take(swap(this.a,new iso A(3)));this.a.n=4;this.w!take(swap(this.a,none));this.v=new val A(6);"
            + "this.w!look(this.v);}be back(a:iso A){this.a=consume a;this.a.n=this.a.n+100;}}"
            + "actor W{var m:Main;var a:iso A;var v:val A;new(m:Main){this.m=m;}be look(v:val A){this.v=v;}"
            + "be take(a:iso A){a.n=a.n+10;this.m!back(swap(this.a,consume a));}}", 50, 6);
        house.step(0, 200);
        CHECKS.peeks(house, 1, 1, "take(A#1{n:1,a:A#2{n:2,a:none}})");
        CHECKS.peeks(house, 1, 2, "take(A#3{n:4,a:none})");
        CHECKS.peeks(house, 1, 3, "look(A#4{n:6,a:none})");
        CHECKS.shows(house, 0, 0, "none");
        house.step(1, 200);
        CHECKS.shows(house, 1, 1, "A#3{n:14,a:none}");
        CHECKS.shows(house, 1, 2, "A#4{n:6,a:none}");
        CHECKS.shows(house, 0, 1, "A#4{n:6,a:none}");
        CHECKS.peeks(house, 0, 0, "back(none)");
        CHECKS.peeks(house, 0, 1, "back(A#1{n:11,a:A#2{n:2,a:none}})");
        house.step(0, 200);
        CHECKS.shows(house, 0, 0, "A#1{n:111,a:A#2{n:2,a:none}}");
        CHECKS.same("the first one failed at none", house.actor(0, 4), 1);
        CHECKS.same("copies take no cells", house.world(2), 4 + 4 + 4 * 3);
        CHECKS.same("nor are they made", house.world(1), 4);
    }

    private static void numbersStay() {
        ActorHouse house = CHECKS.started("class A{new(){}}actor Main{var a:ref A;new(){new W();new A();this.a=new A();}}"
            + "actor W{var a:ref A;new(){this.a=new A();}}", 50, 6);
        house.step(0, 6);
        house.step(1, 200);
        Checks.runAll(house);
        CHECKS.same("objects of all actors", house.world(1), 3);
        CHECKS.shows(house, 1, 0, "A#2{}");
        CHECKS.shows(house, 0, 0, "A#3{}");
    }
}
