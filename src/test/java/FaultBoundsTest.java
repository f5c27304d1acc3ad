/** Which FAULT counts and where, sentence by sentence: promises 4 and 5, FAULTS 2 to 4 and the order of all. */
public final class FaultBoundsTest {
    private static final Checks CHECKS = new Checks();
    private static final String MAIN = "actor Main{new(){}}";
    private static final String[] CAPS = {"iso", "trn", "ref", "val", "box"};

    public static void main(String[] args) {
        theFirstOfOne();
        oneAheadOfAll();
        leastPlace();
        lowestNumber();
        declarationsAheadOfBodies();
        orderOfBodies();
        firstThatIsMet();
        firstAndLastPlace();
        withoutParentheses();
        repeatedTitles();
        repeatedFields();
        repeatedMethods();
        repeatedParameters();
        theFirstCounts();
        unknownTitles();
        noMain();
        behindNew();
        capOfActor();
        classWithoutCap();
        funsOfActors();
        notSendable();
        notSendableButFaulty();
        buildNone();
        faultAsked();
        faultOfTheLatest();
        CHECKS.finish();
    }

    private static void theFirstOfOne() {
        CHECKS.sentence("FAULTS, the first of 1");
        CHECKS.bad(1, "actor Main{new(){tell ^;tell ;}}");
        CHECKS.bad(1, "actor Main{new(){tell 1^?;tell 1234567890;}}");
        CHECKS.bad(1, "actor Main{new(){tell ^1234567890;tell 1?;}}");
        CHECKS.bad(1, "actor Main{^?");
    }

    private static void oneAheadOfAll() {
        CHECKS.sentence("FAULTS, the first of 1, then of 2 to 4 of the whole text");
        CHECKS.bad(1, "actor Main{var a:int;var a:int;new(){tell ^;}}");
        CHECKS.bad(1, "actor Main{var a:ref B;new(){}}^?");
        CHECKS.bad(1, "actor Main{var a:ref Main;new(){}^");
        CHECKS.bad(1, "actor Main{new(){tell none;}}^x");
        CHECKS.bad(1, "class B{new(){}}^;");
    }

    private static void leastPlace() {
        CHECKS.sentence("then of 2 to 4 of the whole text the one with the least place");
        CHECKS.bad(2, "actor Main{var a:int;var ^a:ref X;new(){}}");
        CHECKS.bad(3, "actor Main{var a:ref ^X;var a:int;new(){}}");
        CHECKS.bad(4, "actor Main{var b:^ref Main;var a:ref X;var b:int;new(){}}");
        CHECKS.bad(3, "actor Main{var b:ref ^X;var a:ref Main;var b:int;new(){}}");
        CHECKS.bad(2, MAIN + "actor ^Main{var a:ref X;var b:ref Main;new(){}}");
        CHECKS.bad(4, "actor Main{new(){}fun ^box f(a:int,a:ref X){}fun ref f(){}}");
        CHECKS.bad(3, "class B{new(){new ^X();}fun ref f(a:int,a:int){}}");
        CHECKS.bad(2, "class B{new(){}fun ref f(a:int,^a:int){new X();}}");
        CHECKS.bad(4, "class B{new(){}}actor W{new(^a:ref B,a:ref X){}}");
    }

    private static void lowestNumber() {
        CHECKS.sentence("(at one place the lowest number)");
        for (String cap : new String[] {"trn", "ref", "box"}) {
            CHECKS.bad(2, "class B{new(){}}" + MAIN + "actor W{new(a:int,^a:" + cap + " B){}}");
            CHECKS.bad(2, "class B{new(){}}" + MAIN + "actor W{new(){}be b(a:int,^a:" + cap + " B){}}");
            CHECKS.bad(4, "class B{new(){}}" + MAIN + "actor W{new(){}be b(^a:" + cap + " B,a:int){}}");
        }
    }

    private static void declarationsAheadOfBodies() {
        CHECKS.sentence("then of the bodies, in the order of the text, the first that is met");
        CHECKS.bad(2, "actor Main{new(){tell none;}fun ref f(){}be ^f(){}}");
        CHECKS.bad(3, "actor Main{new(){tell x;}fun ref f(a:ref ^X){}}");
        CHECKS.bad(3, "actor Main{new(){tell x;}be b(){var a:val ^X=none;}}");
        CHECKS.bad(4, "actor Main{new(){tell x;}fun ^val f(){}}");
        CHECKS.bad(3, "class B{new(){tell none;}}^");
        CHECKS.bad(4, "actor Main{new(){tell x;new ^iso Main();}}");
    }

    private static void orderOfBodies() {
        CHECKS.sentence("then of the bodies, in the order of the text, the first that is met");
        CHECKS.bad(5, "class B{new(){}fun ref f(){tell ^none;}}actor Main{new(){tell x;}}");
        CHECKS.bad(3, "actor Main{new(){tell ^x;}}class B{new(){tell none;}}");
        CHECKS.bad(8, "actor Main{new(){}be a(){^return 1;}fun ref b(){tell x;}}");
        CHECKS.bad(5, "actor Main{new(){tell ^none;}be a(){tell x;}}");
        CHECKS.bad(3, "actor Main{new(){}be a(){}be b(){tell ^x;}}");
        CHECKS.bad(3, "actor Main{new(){}be a(){}fun ref b():int{return ^x;}be c(){tell none;}}");
    }

    /** It need not be the one with the least place, nor the lowest number. */
    private static void firstThatIsMet() {
        CHECKS.sentence("then of the bodies, in the order of the text, the first that is met");
        CHECKS.bad(3, "actor Main{var n:int;new(){x.f(^y);}}");
        CHECKS.bad(3, "actor Main{var n:int;new(){x=^y;}}");
        CHECKS.bad(3, "actor Main{var n:int;new(){tell none+^y;}}");
        CHECKS.bad(5, "actor Main{var n:int;new(){this.n=^none;tell x;}}");
        CHECKS.bad(8, "actor Main{var n:int;new(){^return x;}}");
        CHECKS.bad(5, "actor Main{var n:int;new(){tell (1+^none)+x;}}");
    }

    private static void firstAndLastPlace() {
        CHECKS.sentence("Places are characters, from 0; an EXPR's is where it begins.");
        CHECKS.bad(1, 0, "?");
        CHECKS.bad(1, 0, "");
        CHECKS.bad(1, 5, "     ");
        String text = "class B{new(){}}";
        String padded = text + Checks.repeat(" ", 2000 - text.length());
        CHECKS.bad(3, 2000, padded);
        CHECKS.bad(1, 1999, padded.substring(0, 1999) + "?");
        CHECKS.bad(5, "actor Main{new(){tell  ^this . f ( 1 ) . g;}fun ref f(n:int):Main{return none;}}");
        CHECKS.bad(5, "actor Main{var n:int;new(){this . n =  ^new  Main ( );}}");
        CHECKS.bad(5, "actor Main{var n:int;new(){has ( ^1 + 2 );}}");
        CHECKS.bad(5, "actor Main{var m:Main;new(){this . m =  ^1 + 2 * 3;}}");
    }

    private static void withoutParentheses() {
        CHECKS.sentence("( ) around an EXPR are as if they were not there (it begins behind the parenthesis), but for the depth.");
        CHECKS.bad(5, "actor Main{new(){tell (^none);}}");
        CHECKS.bad(5, "actor Main{new(){tell ((( ^none )));}}");
        CHECKS.bad(5, "actor Main{new(){tell (^none)+1;}}");
        CHECKS.bad(5, "actor Main{new(){has((^1)+2);}}");
        CHECKS.bad(5, "actor Main{var m:Main;new(){this.m=((^1)+2)*3;}}");
        CHECKS.bad(5, "actor Main{var m:Main;new(){((^this).m).m;}}");
        CHECKS.bad(8, "actor Main{new(){((^1))=2;}}");
        CHECKS.good("actor Main{var n:int;new(){var x:int=1;(x)=2;((this.n))=3;(this).n=4;swap((x),5);swap(((this).n),6);}}");
        CHECKS.good("actor Main{var n:int;new(){(this).f();((this)).n;}fun ref f(){}}");
        CHECKS.bad(6, "class B{new(){}}actor Main{var b:iso B;new(){var c:iso B=((^this.b));}}");
    }

    private static void repeatedTitles() {
        CHECKS.sentence("2: a TITLE, a field, a method, a parameter that there is already (of kinds; in its kind; of funs and bes together "
            + "in it; in its list): at the later one.");
        for (String first : new String[] {"class", "actor"}) {
            for (String second : new String[] {"class", "actor"}) {
                CHECKS.bad(2, MAIN + first + " B{new(){}}" + second + "  ^B{new(){}}");
            }
        }
        CHECKS.bad(2, MAIN + "class B{new(){}}class C{new(){}}class ^B{new(){}}class C{new(){}}");
        CHECKS.bad(2, MAIN + "class B{new(){}}class ^B{new(){}}class B{new(){}}");
        CHECKS.good(MAIN + "class B{new(){}}class BB{new(){}}class Bb{new(){}}");
    }

    private static void repeatedFields() {
        CHECKS.sentence("2: a TITLE, a field, a method, a parameter that there is already");
        CHECKS.bad(2, "actor Main{var a:int;var  ^a:int;new(){}}");
        CHECKS.bad(2, "actor Main{" + "var a:int;var b:int;var c:int;var d:int;var e:int;var f:int;var g:int;var ^a:Main;new(){}}");
        CHECKS.bad(2, MAIN + "class B{var a:int;var ^a:int;var a:int;new(){}}");
        CHECKS.good("actor Main{var a:int;new(){}fun ref a(a:int){}}class B{var a:int;new(a:int){}}");
    }

    private static void repeatedMethods() {
        CHECKS.sentence("of funs and bes together in it");
        CHECKS.bad(2, "actor Main{new(){}fun ref f(){}fun ref  ^f(){}}");
        CHECKS.bad(2, "actor Main{new(){}fun ref f(){}be  ^f(){}}");
        CHECKS.bad(2, "actor Main{new(){}be f(){}fun ref  ^f(){}}");
        CHECKS.bad(2, "actor Main{new(){}be f(){}be  ^f(a:int){}}");
        CHECKS.bad(2, MAIN + "class B{new(){}fun ref f(){}fun box g(){}fun val ^f(){}}");
        CHECKS.good("actor Main{new(){}be f(){}}actor B{new(){}fun ref f(){}}class C{new(){}fun box f(){}}");
    }

    private static void repeatedParameters() {
        CHECKS.sentence("in its list): at the later one");
        CHECKS.bad(2, "actor Main{new(){}be f(a:int,^a:int){}}");
        CHECKS.bad(2, "actor Main{new(){}fun ref f(a:int,b:int,c:int,d:int,e:int,^a:int){}}");
        CHECKS.bad(2, MAIN + "class B{new(a:int,b:int,^b:int){}}");
        CHECKS.bad(2, MAIN + "actor B{new(a:int,^a:int){}}");
        CHECKS.good("actor Main{new(){}be f(a:int){}be g(a:int){}}class B{new(a:int){}}");
    }

    private static void theFirstCounts() {
        CHECKS.sentence("(Of kinds, fields, methods with one name the first counts in all of this.)");
        CHECKS.bad(4, "actor Main{var a:^ref B;new(){}}actor B{new(){}}class B{new(){}}");
        CHECKS.bad(2, "actor Main{var a:ref B;new(){}}class B{new(){}}actor ^B{new(){}}");
        CHECKS.bad(4, "actor Main{var a:^B;new(){}}class B{new(){}}actor B{new(){}}");
        CHECKS.bad(2, "actor Main{var a:B;new(){}}actor B{new(){}}class ^B{new(){}}");
        CHECKS.bad(4, "actor W{new(){}be b(^a:ref B){}}class B{new(){}}actor B{new(){}}" + MAIN);
    }

    private static void unknownTitles() {
        CHECKS.sentence("3: a TITLE that no kind has");
        for (String cap : CAPS) {
            CHECKS.bad(3, "actor Main{var a:" + cap + " ^X;new(){}}");
            CHECKS.bad(3, "actor Main{new(){}fun ref f(a:" + cap + " ^X){}}");
            CHECKS.bad(3, "actor Main{new(){}fun ref f():" + cap + " ^X{return none;}}");
            CHECKS.bad(3, "actor Main{new(){var a:" + cap + " ^X=none;}}");
            CHECKS.bad(3, MAIN + "class B{new(a:" + cap + " ^X){}}");
        }
        CHECKS.bad(3, "actor Main{var a:^X;new(){}}");
        CHECKS.bad(3, "actor Main{var a:^Mai;new(){}}");
        CHECKS.bad(3, "actor Main{var a:^MainX;new(){}}");
        CHECKS.bad(3, "actor Main{var a:^MAIN;new(){}}");
        CHECKS.good("actor Main{var a:ref X;new(){}}class X{new(){}}");
    }

    private static void noMain() {
        CHECKS.sentence("no actor Main whose MAKER has no parameters: at the text's length");
        CHECKS.bad(3, "class Main{new(){}}^");
        CHECKS.bad(3, "actor Mai{new(){}}^");
        CHECKS.bad(3, "actor Mainn{new(){}}   ^");
        CHECKS.bad(3, "actor MAIN{new(){}}^");
        CHECKS.bad(3, "actor Main{new(n:int){}}^");
        CHECKS.bad(3, "actor Main{new(a:int,b:int,c:int,d:int,e:int,f:int){}} ^");
        CHECKS.good("actor Main{new(){}be f(n:int){}}");
        CHECKS.good("class B{new(){}}actor W{new(n:int){}}actor Main{new(){}}");
    }

    private static void behindNew() {
        CHECKS.sentence("(3 and 4 behind new, too:)");
        CHECKS.bad(3, "actor Main{new(){new ^X();}}");
        CHECKS.bad(3, "actor Main{new(){tell x;}be b(){new val ^X();}}");
        for (String cap : CAPS) {
            CHECKS.bad(3, "actor Main{new(){new " + cap + " ^X();}}");
            CHECKS.bad(4, "actor Main{new(){tell x;new ^" + cap + " Main();}}");
        }
        CHECKS.good("class B{new(){}}actor Main{new(){new B();new Main();}}");
    }

    private static void capOfActor() {
        CHECKS.sentence("4: a CAP ahead of an actor's TITLE: at the CAP");
        for (String cap : CAPS) {
            CHECKS.bad(4, "actor Main{var a: ^" + cap + "  Main;new(){}}");
            CHECKS.bad(4, "actor Main{new(){}fun ref f(a: ^" + cap + " Main){}}");
            CHECKS.bad(4, "actor Main{new(){}be f(a: ^" + cap + " Main){}}");
            CHECKS.bad(4, "actor Main{new(){}fun ref f(): ^" + cap + " Main{return none;}}");
            CHECKS.bad(4, "actor Main{new(){var a: ^" + cap + " Main=none;}}");
        }
    }

    private static void classWithoutCap() {
        CHECKS.sentence("a class in a TYPE without: at the TITLE");
        String kind = "class B{new(){}}";
        CHECKS.bad(4, kind + "actor Main{var a: ^B;new(){}}");
        CHECKS.bad(4, kind + "actor Main{new(){}fun ref f(a: ^B){}}");
        CHECKS.bad(4, kind + "actor Main{new(){}be f(a: ^B){}}");
        CHECKS.bad(4, kind + "actor Main{new(){}fun ref f(): ^B{return none;}}");
        CHECKS.bad(4, kind + "actor Main{new(){var a: ^B=none;}}");
        CHECKS.good(kind + "actor Main{new(){new B();}}");
    }

    private static void funsOfActors() {
        CHECKS.sentence("a fun of an actor with another CAP than ref: at the CAP");
        for (String cap : CAPS) {
            CHECKS.verdict(cap.equals("ref"), 4, "actor Main{new(){}fun ^" + cap + " f(){}}");
            CHECKS.verdict(cap.equals("ref"), 4, MAIN + "actor W{new(){}be a(){}fun ^" + cap + " f():int{return 1;}}");
            CHECKS.good(MAIN + "class B{new(){}fun " + cap + " f(){}}");
        }
    }

    private static void notSendable() {
        CHECKS.sentence("SENDABLE are int, actors, classes with iso or val.");
        String[] types = {"int", "Main", "W", "iso B", "trn B", "ref B", "val B", "box B"};
        for (String type : types) {
            boolean sendable = !type.equals("trn B") && !type.equals("ref B") && !type.equals("box B");
            String kinds = "class B{new(){}fun ref f(a:" + type + "):" + type + "{return consume a;}}" + MAIN;
            CHECKS.verdict(sendable, 4, kinds + "actor W{new(n:int,^a:" + type + "){}}");
            CHECKS.verdict(sendable, 4, kinds + "actor W{new(){}be b(^a:" + type + ",n:int){}}");
            CHECKS.good(kinds + "actor W{new(){}fun ref f(a:" + type + "){}}");
            CHECKS.good(kinds + "actor W{new(){}}class C{var c:" + type + ";new(a:" + type + "){}}");
        }
    }

    private static void notSendableButFaulty() {
        CHECKS.sentence("a parameter of a be, or an actor's MAKER, whose TYPE has no such FAULT and is not SENDABLE: at its NAME");
        for (String cap : CAPS) {
            CHECKS.bad(3, "actor Main{new(){}be b(a:" + cap + " ^X){}}");
            CHECKS.bad(4, "actor Main{new(){}be b(a:^" + cap + " Main){}}");
            CHECKS.bad(3, MAIN + "actor W{new(a:" + cap + " ^X){}}");
            CHECKS.bad(4, MAIN + "actor W{new(a:^" + cap + " Main){}}");
        }
        CHECKS.bad(4, MAIN + "class B{new(){}}actor W{new(a:^B){}}");
        CHECKS.bad(4, MAIN + "class B{new(){}}actor W{new(){}be b(n:int,a:^B){}}");
    }

    private static void buildNone() {
        CHECKS.sentence("how many KINDS it has; NONE if it has a FAULT (then there is no program).");
        ActorHouse house = CHECKS.built(MAIN);
        CHECKS.same("program(0)", house.program(0), 1);
        Checks.write(house, MAIN + "?");
        CHECKS.same("build of a fault", house.build(), -1);
        for (int what = 0; what < 5; what++) {
            CHECKS.same("program(" + what + ") behind it", house.program(what), -1);
        }
        CHECKS.isFalse("start behind it", house.start(400, 6));
        Checks.write(house, "class B{new(){}}" + MAIN);
        CHECKS.same("build of two kinds", house.build(), 2);
        CHECKS.isTrue("start behind it", house.start(400, 6));
    }

    private static void faultAsked() {
        CHECKS.sentence("Of the latest build(): the FAULT (what 0; 0 without one), its place (1; NONE without). "
            + "NONE for another what, or before any.");
        ActorHouse fresh = new ActorHouse();
        ActorHouse good = CHECKS.built(MAIN);
        ActorHouse bad = new ActorHouse();
        Checks.write(bad, MAIN + "?");
        bad.build();
        int[] wrong = {Integer.MIN_VALUE, -2, -1, 2, 3, Integer.MAX_VALUE};
        for (int what : wrong) {
            CHECKS.same("fault(" + what + ") before any", fresh.fault(what), -1);
            CHECKS.same("fault(" + what + ") without one", good.fault(what), -1);
            CHECKS.same("fault(" + what + ") of one", bad.fault(what), -1);
        }
        CHECKS.same("fault(0) before any", fresh.fault(0), -1);
        CHECKS.same("fault(1) before any", fresh.fault(1), -1);
        CHECKS.same("fault(0) without one", good.fault(0), 0);
        CHECKS.same("fault(1) without one", good.fault(1), -1);
        CHECKS.same("fault(0) of one", bad.fault(0), 1);
        CHECKS.same("fault(1) of one", bad.fault(1), 19);
    }

    private static void faultOfTheLatest() {
        CHECKS.sentence("Of the latest build(): the FAULT");
        ActorHouse house = CHECKS.built(MAIN);
        Checks.write(house, "?" + MAIN);
        CHECKS.same("the text alone changes nothing", house.fault(0), 0);
        house.build();
        CHECKS.same("fault(0)", house.fault(0), 1);
        CHECKS.same("fault(1)", house.fault(1), 0);
        Checks.write(house, "actor Main{new(){tell x;}}");
        CHECKS.isFalse("start changes nothing", house.start(400, 6));
        CHECKS.same("fault(0) still", house.fault(0), 1);
        house.build();
        CHECKS.same("fault(0) of the next", house.fault(0), 3);
        CHECKS.same("fault(1) of the next", house.fault(1), 22);
        Checks.write(house, MAIN);
        house.build();
        CHECKS.same("fault(0) of a good one", house.fault(0), 0);
        CHECKS.same("fault(1) of a good one", house.fault(1), -1);
    }
}
