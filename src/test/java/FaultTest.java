import java.util.ArrayList;
import java.util.List;

/** What the Terms say of THE TAPE, TOKENS, TEXTS and FAULTS: each at its bound and one step beyond. */
public final class FaultTest {
    private static final Due T = new Due("FaultTest");
    private static final String REST = ";joys 1;cools 1;";

    public static void main(String[] args) {
        tapeOf160();
        sixTexts();
        theTapeIsEmptyThen();
        longFaultsLeaveNothing();
        numbersOfFourDigits();
        tokensAsLongAsCanBe();
        wordsThatAreNone();
        bytesThatBeginAToken();
        bytesBehindAToken();
        blanksAnywhere();
        endsTooEarly();
        tokensThatCannotStandThere();
        theFirstOfTwoFaults();
        fiveMayBeOpen();
        openTillItEnds();
        aMinusBetweenTermsIsNotOpen();
        T.end();
    }

    private static void isText(String letters) {
        TepidByTreaty x = new TepidByTreaty();
        T.due("[" + letters + "]", Due.text(x, letters), 1);
        T.due("texts with [" + letters + "]", x.count(2), 2);
    }

    private static void isFault(String letters, int place) {
        TepidByTreaty x = new TepidByTreaty();
        T.due("[" + letters + "]", Due.text(x, letters), -100 - place);
        T.due("texts behind [" + letters + "]", x.count(2), 1);
    }

    /** THE TAPE (160 bytes at most). */
    private static void tapeOf160() {
        String blanks = " ".repeat(160 - 5 - REST.length());
        isText("may 1" + blanks + REST);
        isText("may" + blanks + " 1" + REST);
        isText("may 1" + REST + blanks);
        TepidByTreaty x = new TepidByTreaty();
        Due.feed(x, "may 1" + blanks + REST);
        T.due("one more", x.feed(';'), -4);
        T.due("is not on it", x.count(3), 160);
        T.due("so it is a text", x.text(), 1);
        isFault("may 1" + REST + blanks.substring(1) + "@", 159);
        isFault("may 1" + REST + blanks.substring(1) + "1", 159);
        isFault("may 1" + blanks + " " + REST.substring(0, REST.length() - 1), 160);
        isFault(" ".repeat(160), 160);
        isFault(" ".repeat(159) + "m", 159);
        isFault("m".repeat(160), 0);
        isFault("may 1" + "*1".repeat(77) + "+", 160);
        isFault("may 1" + "*1".repeat(77) + ")", 159);
    }

    /** 6 TEXTS at most, TEXT 0 with them; FULL (ahead of all): THE TAPE stays. */
    private static void sixTexts() {
        TepidByTreaty x = new TepidByTreaty();
        T.due("text 0", x.count(2), 1);
        for (int k = 1; k <= 5; k++) T.due("text " + k, Due.text(x, "may 1;joys " + k + ";cools 0;"), k);
        T.due("a sound seventh", Due.text(x, "may 1" + REST), -4);
        T.due("its tape stays", x.count(3), 5 + REST.length());
        T.due("and takes more", x.feed('@'), 6 + REST.length());
        T.due("a faulty seventh", x.text(), -4);
        T.due("its tape stays", x.count(3), 6 + REST.length());
        T.due("six", x.count(2), 6);
        x.aunt(0, 0, 1);
        for (int k = 1; k <= 5; k++) {
            T.due("force " + k, x.force(k), k - 1);
            T.due("text " + k + " is its own", x.share(0), k);
        }
        T.due("text 0 too", x.force(0), 5);
        T.due("heat behind the cooling", x.share(0), 77);
    }

    /** THE TAPE, which is empty then (by a FAULT, too). */
    private static void theTapeIsEmptyThen() {
        TepidByTreaty x = new TepidByTreaty();
        T.due("an empty tape", x.text(), -100);
        T.due("an empty tape again", x.text(), -100);
        T.due("a fault", Due.text(x, "may 1 @"), -106);
        T.due("tape", x.count(3), 0);
        T.due("nothing was left", x.text(), -100);
        T.due("a text", Due.text(x, "may 1" + REST), 1);
        T.due("tape", x.count(3), 0);
        T.due("nothing was left", x.text(), -100);
        T.due("the rule is as it was", x.count(4), 0);
        T.due("shorter than the last one", Due.text(x, "may 1;joys 1"), -112);
        Due.feed(x, "may 1");
        Due.feed(x, REST);
        T.due("in two parts", x.text(), 2);
    }

    /** What was read of a tape with a FAULT is no part of the TEXT that comes next. */
    private static void longFaultsLeaveNothing() {
        TepidByTreaty x = new TepidByTreaty();
        for (int k = 0; k < 2; k++) {
            T.due("a long fault", Due.text(x, "may 1" + "*1".repeat(77) + "!"), -259);
        }
        T.due("then a text", Due.text(x, "may 2-1;joys 5*7;cools 9-5;"), 1);
        x.force(1);
        x.aunt(0, 0, 1);
        T.due("may", x.cups(0), 1);
        T.due("joys", x.share(0), 35);
        T.due("cools", x.minute(5, 0), 80 - 6 - 6 * 4);
    }

    /** NUMBERS (as many digits as stand there, 4 at most). */
    private static void numbersOfFourDigits() {
        String[] sound = {"0", "9", "10", "99", "100", "999", "1000", "9999", "0000", "0001"};
        for (String s : sound) {
            isText("may " + s + REST);
            isText("may 1;joys 1;cools " + s + ";");
        }
        String[] tooLong = {"10000", "00000", "99999", "00001", "123456", "4294967296", "18446744073709551616"};
        for (String s : tooLong) {
            isFault("may " + s + REST, 4);
            isFault("may 1+" + s + REST, 6);
            isFault("may 1;joys 1;cools " + s + ";", 19);
        }
        TepidByTreaty x = Due.ruled("may 9999=9998+1 and 0012=12 and 0000=0" + REST);
        x.aunt(0, 0, 1);
        T.due("what they are", x.cups(0), 1);
    }

    /** TOKENS, each as long as can be; blanks may stand between. */
    private static void tokensAsLongAsCanBe() {
        isText("may1;joys1;cools1;");
        isText("may not1or 2and 3" + REST);
        isText("may(heat)or(cups)and(1)" + REST);
        isText("may 1or not 2" + REST);
        isFault("may notheat" + REST, 4);
        isFault("may heator 1" + REST, 4);
        isFault("may 1 orheat" + REST, 6);
        isFault("mayheat" + REST, 0);
        isFault("may heat2" + REST, 8);
        isFault("may 2heat" + REST, 5);
        isFault("may 1 2" + REST, 6);
        isFault("may he at" + REST, 4);
        isFault("may 1;jo ys 1;cools 1;", 6);
    }

    /** also of a WORD that is neither KEY nor NAME. */
    private static void wordsThatAreNone() {
        String[] names = {"heat", "thirst", "number", "shown", "minute", "cups"};
        for (String name : names) {
            isText("may " + name + REST);
            isText("may 1;joys " + name + ";cools " + name + ";");
            isFault("may " + name + "s" + REST, 4);
            isFault("may a" + name + REST, 4);
            isFault("may " + name.substring(1) + REST, 4);
            isFault("may " + name.substring(0, name.length() - 1) + REST, 4);
            isFault("may 1 " + name + REST, 6);
            isFault(name + " 1" + REST, 0);
            for (int i = 0; i < name.length(); i++) {
                String other = name.substring(0, i) + (char) (name.charAt(i) ^ 1) + name.substring(i + 1);
                isFault("may " + other + REST, 4);
            }
        }
        String[] keys = {"may", "joys", "cools", "or", "and"};
        for (String key : keys) {
            isFault("may " + key + REST, 4);
            isFault("may 1+" + key + REST, 6);
            isFault("may (" + key + ")" + REST, 5);
        }
        isFault("mayx 1" + REST, 0);
        isFault("ma 1" + REST, 0);
        isFault("may 1;joy 1;cools 1;", 6);
        isFault("may 1;joyss 1;cools 1;", 6);
        isFault("may 1;joys 1;cool 1;", 13);
        isFault("may 1;joys 1;coolss 1;", 13);
        isFault("may 1 o 1" + REST, 6);
        isFault("may 1 orr 1" + REST, 6);
        isFault("may 1 an 1" + REST, 6);
        isFault("may 1 andd 1" + REST, 6);
        isFault("may no 1" + REST, 4);
        isFault("may nott 1" + REST, 4);
    }

    /** the place of the first byte of the first TOKEN that can't stand there, also of a byte that begins none. */
    private static void bytesThatBeginAToken() {
        for (int b = 0; b < 256; b++) {
            boolean blank = b == 32 || b == 10;
            boolean opens = b == '(' || b == '-';
            boolean digit = b >= '0' && b <= '9';
            isFault("" + (char) b, blank ? 1 : 0);
            isFault("may " + (char) b, blank || opens || digit ? 5 : 4);
        }
    }

    private static void bytesBehindAToken() {
        for (int b = 0; b < 256; b++) {
            boolean goesOn = b == 32 || b == 10 || "+-*<=;".indexOf(b) >= 0 || b >= '0' && b <= '9';
            isFault("may 1" + (char) b, goesOn ? 6 : 5);
            boolean blank = b == 32 || b == 10;
            String letters = "may 1" + REST + (char) b;
            if (blank) {
                isText(letters);
            } else {
                isFault(letters, 5 + REST.length());
            }
        }
    }

    /** blanks (32, 10) may stand between. */
    private static void blanksAnywhere() {
        isText("\n \nmay\n1\n;\njoys\n1\n;\ncools\n1\n;\n");
        isText("  may  (  1  )  ;  joys  -  1  ;  cools  1  <  2  ;  ");
        isText("may(1);joys-1;cools(1<2);");
        isFault("may\t1" + REST, 3);
        isFault("may\r\n1" + REST, 3);
        isFault("may" + (char) 160 + "1" + REST, 3);
    }

    /** the text's size, if it ends too early. */
    private static void endsTooEarly() {
        String whole = "may not(1+heat*2)<-3 or cups and 4=5;joys 9-1;cools(shown);";
        isText(whole);
        boolean[] splits = new boolean[whole.length()];
        for (int i = 1; i < whole.length(); i++) {
            boolean word = whole.charAt(i) >= 'a' && whole.charAt(i) <= 'z';
            splits[i] = word && whole.charAt(i - 1) >= 'a' && whole.charAt(i - 1) <= 'z';
        }
        for (int size = 0; size < whole.length(); size++) {
            if (splits[size]) continue;
            isFault(whole.substring(0, size), size);
            isFault(whole.substring(0, size) + " \n", size + 2);
        }
    }

    private static void tokensThatCannotStandThere() {
        String[] notAhead = {")", ";", "+", "*", "<", "=", "may", "or", "and", "joys", "cools"};
        for (String s : notAhead) {
            isFault("may " + s + " 1" + REST, 4);
            isFault("may 1*" + s + " 1" + REST, 6);
            isFault("may (" + s + " 1)" + REST, 5);
            isFault("may -" + s + " 1" + REST, 5);
            isFault("may not " + s + " 1" + REST, 8);
        }
        String[] notBehind = {"(", "not", "may", "joys", "cools", "heat", "7"};
        for (String s : notBehind) {
            isFault("may 1 " + s + REST, 6);
            isFault("may (1) " + s + REST, 8);
            isFault("may 1" + REST + s, 5 + REST.length());
        }
        String[] notBefore = {"1+not 1", "1-not 1", "1*not 1", "1<not 1", "1=not 1"};
        for (String s : notBefore) isFault("may " + s + REST, 6);
        isFault("may -not 1" + REST, 5);
        isFault("may 1<2<3" + REST, 7);
        isFault("may 1=2=3" + REST, 7);
        isFault("may 1<2=3" + REST, 7);
        isFault("may 1=2<3" + REST, 7);
        isFault("may not 1<2<3" + REST, 11);
        isText("may (1<2)<3" + REST);
        isText("may 1<2 or 3=4 and not 5<6" + REST);
        isFault("may 1)" + REST, 5);
        isFault("may (1))" + REST, 7);
        isFault("may ()" + REST, 5);
        isFault("may ((1)" + REST, 8);
        isFault("may 1,2" + REST, 5);
        isFault("joys 1;may 1;cools 1;", 0);
        isFault("may 1;cools 1;joys 1;", 6);
        isFault("may 1;joys 1;joys 1;cools 1;", 13);
        isFault("may 1;;joys 1;cools 1;", 6);
        isFault("may 1" + REST + ";", 5 + REST.length());
        isFault("may 1" + REST + "may 1" + REST, 5 + REST.length());
    }

    /** the first TOKEN that can't stand there, in reading order, whatever it is by. */
    private static void theFirstOfTwoFaults() {
        isFault("may 1 2 @" + REST, 6);
        isFault("may 1 @ 2" + REST, 6);
        isFault("may @ xyz" + REST, 4);
        isFault("may xyz @" + REST, 4);
        isFault("may 12345 xyz" + REST, 4);
        isFault("may 1 xyz 12345" + REST, 6);
        isFault("may ((((((12345" + REST, 9);
        isFault("may (((((12345" + REST, 9);
        isFault("may 1;cools @", 6);
        isFault("joys @", 0);
    }

    // ---- the 5 that may be open

    private static final String[] OPENERS = {"(", "-", "not "};
    private static final String[] SIGNS = {"<", "=", "+", "-", "*"};

    /** Rows of n of ( and - and not, as they may stand ahead of one another: no not behind a -. */
    private static List<String> rows(int n) {
        List<String> rows = new ArrayList<>();
        if (n == 0) return List.of("");
        for (String ahead : rows(n - 1)) {
            for (String opener : OPENERS) {
                if (!(ahead.endsWith("-") && opener.startsWith("not"))) rows.add(ahead + opener);
            }
        }
        return rows;
    }

    private static String closes(String row) {
        return ")".repeat((int) row.chars().filter(c -> c == '(').count());
    }

    /** a ( , a not, a - ahead of a ONE while 5 of these are open: each way to open five, and each way to open a sixth. */
    private static void fiveMayBeOpen() {
        for (String five : rows(5)) {
            isText("may " + five + "1" + closes(five) + REST);
            isText("may 1;joys 1;cools " + five + "heat" + closes(five) + ";");
            for (String opener : OPENERS) {
                String six = five + opener;
                isFault("may " + six + "1" + closes(six) + REST, 4 + five.length());
            }
        }
    }

    /** (a ( till its ) , not and - till what they belong to ends). */
    private static void openTillItEnds() {
        for (String five : rows(5)) {
            String whole = five + "1" + closes(five);
            isText("may " + whole + " or " + whole + REST);
            isText("may " + whole + " and " + whole + REST);
            // behind these no not may stand, whatever is open
            if (!five.startsWith("not")) {
                for (String sign : SIGNS) isText("may " + whole + sign + whole + REST);
            }
        }
        // a not belongs to all of a NOT, so it is open behind these too
        for (int nots = 0; nots <= 5; nots++) {
            for (String sign : SIGNS) {
                String ahead = "may " + "not ".repeat(nots) + "1" + sign;
                isText(ahead + "-".repeat(5 - nots) + "1" + REST);
                isFault(ahead + "-".repeat(6 - nots) + "1" + REST, ahead.length() + 5 - nots);
                isText(ahead + "(".repeat(5 - nots) + "1" + ")".repeat(5 - nots) + REST);
                isFault(ahead + "(".repeat(6 - nots) + "1" + ")".repeat(6 - nots) + REST, ahead.length() + 5 - nots);
            }
            String open = "may " + "(".repeat(nots) + "1+";
            isText(open + "-".repeat(5 - nots) + "1" + ")".repeat(nots) + REST);
            isFault(open + "-".repeat(6 - nots) + "1" + ")".repeat(nots) + REST, open.length() + 5 - nots);
        }
        isText("may (((((1)))))*(((((1)))))+-----1" + REST);
        isText("may 1;joys (((((1)))));cools (((((1)))));");
        isFault("may (((((1))))+(((((1)))))" + REST, 19);
    }

    /** Of the two - only that of "- ONE" is one of the 5. */
    private static void aMinusBetweenTermsIsNotOpen() {
        isText("may (((((1-1-1)))))" + REST);
        isText("may -----1-1-1-1-1-1-1" + REST);
        isText("may 1-1-1-1-1-1-1-1" + REST);
        isText("may not not not not not 1-1" + REST);
        isFault("may (((((1--1)))))" + REST, 11);
        isText("may ((((1--1))))" + REST);
    }
}
