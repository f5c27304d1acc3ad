/** The bounds of words, numbers and signs, sentence by sentence: promises 4 and 5, FAULT 1. */
public final class WordBoundsTest {
    private static final Checks CHECKS = new Checks();
    private static final String KEYWORDS = "class actor new fun be var if else while return tell give has swap none this "
        + "consume recover iso trn ref val box int";
    private static final String SIGNS = "{}();,:.!=<+-*";

    public static void main(String[] args) {
        names();
        lettersOfNames();
        keywords();
        titles();
        numbers();
        valuesOfNumbers();
        everySign();
        noSign();
        longestSign();
        blanks();
        noBlanks();
        wholeRows();
        CHECKS.finish();
    }

    private static boolean isLetterOrDigit(char c) {
        return c >= '0' && c <= '9' || c >= 'A' && c <= 'Z' || c >= 'a' && c <= 'z';
    }

    private static String field(String name) {
        return "actor Main{var ^" + name + ":int;new(){}}";
    }

    private static String kind(String title) {
        return "actor Main{new(){}}class ^" + title + "{new(){}}";
    }

    private static String told(String number) {
        return "actor Main{new(){tell ^" + number + ";}}";
    }

    private static void verdict(boolean isGood, int place, String text) {
        if (isGood) {
            CHECKS.good(text);
        } else {
            CHECKS.bad(1, place, text);
        }
    }

    private static void names() {
        CHECKS.sentence("WORDS: small letters and digits, a letter first, at most 8 (a NAME");
        for (int length = 1; length <= 12; length++) {
            CHECKS.verdict(length <= 8, 1, field(Checks.repeat("q", length)));
            CHECKS.verdict(length <= 8, 1, field("q" + Checks.repeat("7", length - 1)));
        }
        CHECKS.bad(1, field("7"));
        CHECKS.bad(1, field("7q"));
        CHECKS.bad(1, field(""));
    }

    private static void lettersOfNames() {
        CHECKS.sentence("WORDS: small letters and digits, a letter first");
        for (char c = 0; c <= 255; c++) {
            boolean small = c >= 'a' && c <= 'z';
            boolean digit = c >= '0' && c <= '9';
            if (c != ' ' && c != ':') {
                verdict(small, 15, "actor Main{var " + c + "q:int;new(){}}");
                int place = isLetterOrDigit(c) ? 15 : 16;
                verdict(small || digit, place, "actor Main{var q" + c + ":int;new(){}}");
            }
        }
    }

    private static void keywords() {
        CHECKS.sentence("(a NAME, if it is none of class actor new fun be var if else while return tell give has swap none this "
            + "consume recover iso trn ref val box int)");
        for (String word : KEYWORDS.split(" ")) {
            CHECKS.bad(1, field(word));
            CHECKS.good(field(word + "q").replace("^", ""));
            CHECKS.good(field("q" + word).replace("^", ""));
            CHECKS.good(field(word.substring(0, word.length() - 1)).replace("^", ""));
            CHECKS.good(field(word + "0").replace("^", ""));
            CHECKS.good(kind(Character.toUpperCase(word.charAt(0)) + word.substring(1)).replace("^", ""));
        }
    }

    private static void titles() {
        CHECKS.sentence("the same with a great letter first (then small and great ones and digits) is a TITLE");
        for (int length = 1; length <= 12; length++) {
            CHECKS.verdict(length <= 8, 1, kind(Checks.repeat("Q", length)));
            CHECKS.verdict(length <= 8, 1, kind("Q" + Checks.repeat("q", length - 1)));
            CHECKS.verdict(length <= 8, 1, kind("Q" + Checks.repeat("7", length - 1)));
        }
        for (char c = 0; c <= 255; c++) {
            boolean great = c >= 'A' && c <= 'Z';
            if (c != ' ' && c != '{') {
                verdict(great, 25, "actor Main{new(){}}class " + c + "q{new(){}}");
                int place = isLetterOrDigit(c) ? 25 : 26;
                verdict(isLetterOrDigit(c), place, "actor Main{new(){}}class Q" + c + "{new(){}}");
            }
        }
    }

    private static void numbers() {
        CHECKS.sentence("one to nine digits are a NUMBER");
        for (int length = 1; length <= 20; length++) {
            CHECKS.verdict(length <= 9, 1, told(Checks.repeat("9", length)));
            CHECKS.verdict(length <= 9, 1, told(Checks.repeat("0", length)));
        }
        CHECKS.bad(1, told(""));
    }

    private static void valuesOfNumbers() {
        CHECKS.sentence("one to nine digits are a NUMBER");
        ActorHouse house = CHECKS.started("actor Main{new(){tell 0;tell 9;tell 10;tell 000000000;tell 000000001;tell 099;"
            + "tell 123456789;tell 987654321;tell 999999999;}}", 1, 1);
        Checks.runAll(house);
        CHECKS.same("told", Checks.told(house).replace("@0", ""), "0,9,10,0,1,99,123456789,987654321,999999999");
    }

    private static void everySign() {
        CHECKS.sentence("SIGNS: { } ( ) ; , : . ! = == < + - *");
        CHECKS.good("actor Main{var n:int;new(){this.n=(1+2-3*4<5)==6;this!b(7,8);}be b(x:int,y:int){}}");
    }

    private static void noSign() {
        CHECKS.sentence("or that is none of them");
        for (char c = 0; c <= 255; c++) {
            if (c != ' ' && !isLetterOrDigit(c) && SIGNS.indexOf(c) < 0) {
                CHECKS.bad(1, 23, "actor Main{new(){tell 1" + c + "1;}}");
                CHECKS.bad(1, 0, c + "actor Main{new(){}}");
            }
        }
    }

    private static void longestSign() {
        CHECKS.sentence("(of several the longest)");
        CHECKS.good("actor Main{new(){tell 1==2;}}");
        CHECKS.good("actor Main{new(){tell 1 == 2;}}");
        CHECKS.bad(1, "actor Main{new(){tell 1^= =2;}}");
        CHECKS.bad(1, "actor Main{new(){tell 1==^=2;}}");
        CHECKS.bad(1, "actor Main{new(){tell 1==^==2;}}");
        CHECKS.bad(1, "actor Main{var n:int;new(){this.n==^=1;}}");
        CHECKS.good("actor Main{var n:int;new(){this.n==1;}}");
        CHECKS.good("actor Main{var n:int;new(){this.n=1;}}");
        CHECKS.bad(1, "actor Main{new(){1=^");
        CHECKS.bad(1, "actor Main{new(){1==^");
    }

    private static void blanks() {
        CHECKS.sentence("Blanks (32) may stand between all these.");
        String[] parts = ("actor Main { var n : int ; new ( ) { this . n = ( 1 + 2 - 3 * 4 < 5 ) == 6 ; this ! b ( 7 , 8 ) ; } "
            + "be b ( x : int , y : int ) { } }").split(" ");
        for (int count : new int[] {1, 2, 7}) {
            String blanks = Checks.repeat(" ", count);
            CHECKS.good(blanks + String.join(blanks, parts) + blanks);
        }
        CHECKS.bad(1, "^act or Main{new(){}}");
        CHECKS.bad(1, "actor Main{new(){tell 1 ^2;}}");
        CHECKS.bad(1, "actor Ma ^in{new(){}}");
    }

    private static void noBlanks() {
        CHECKS.sentence("Blanks (32) may stand between all these.");
        for (char c : new char[] {0, 8, 9, 10, 11, 12, 13, 31, 33, 127, 133, 160, 255}) {
            CHECKS.bad(1, 5, "actor" + c + "Main{new(){}}");
            CHECKS.bad(1, 19, "actor Main{new(){}}" + c);
        }
        CHECKS.good("actor Main{new(){}}");
    }

    private static void wholeRows() {
        CHECKS.sentence("A row of letters and digits is taken whole; one that is none of these three can't stand.");
        CHECKS.bad(1, "^actorMain{new(){}}");
        CHECKS.bad(1, told("1a"));
        CHECKS.bad(1, told("1A"));
        CHECKS.bad(1, told("123456789q"));
        CHECKS.bad(1, told("1234567890"));
        CHECKS.bad(1, told("qQ"));
        CHECKS.bad(1, field("qQ"));
        CHECKS.bad(1, field("q234567Q"));
        CHECKS.bad(1, field("intint1234"));
        CHECKS.bad(1, kind("1Q"));
        CHECKS.bad(1, "actor Main{^newx(){}}");
        CHECKS.bad(1, "actor Main{new(){tell1 ^1;}}");
        CHECKS.good("actor Main{new(){var tell1:int=1;tell tell1;}}");
    }
}
