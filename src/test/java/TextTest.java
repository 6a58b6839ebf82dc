/** Promises 5 to 7: feed, text, force; what texts mean. */
public final class TextTest {
    private static final Due T = new Due("TextTest");
    private static final int MAX = Integer.MAX_VALUE, MIN = Integer.MIN_VALUE;

    public static void main(String[] args) {
        feedFills();
        soundTexts();
        faults();
        faultsOfDepth();
        textFull();
        forceRules();
        longTextsLeaveNothing();
        values();
        namesOfAnAunt();
        namesOfNobody();
        bounds();
        T.end();
    }

    private static void feedFills() {
        TepidByTreaty x = new TepidByTreaty();
        T.due("feed(-1)", x.feed(-1), -2);
        T.due("feed(256)", x.feed(256), -2);
        T.due("feed(MAX)", x.feed(MAX), -2);
        T.due("feed(MIN)", x.feed(MIN), -2);
        T.due("feed(0)", x.feed(0), 1);
        T.due("feed(255)", x.feed(255), 2);
        T.due("count(3)", x.count(3), 2);
        for (int n = 3; n <= 160; n++) {
            T.due("feed", x.feed(32), n);
        }
        T.due("feed on a full tape", x.feed(32), -4);
        T.due("bad ahead of full", x.feed(256), -2);
        T.due("count(3)", x.count(3), 160);
        T.due("byte 0 begins none", x.text(), -100);
        T.due("empty then", x.count(3), 0);
        T.due("feed again", x.feed(32), 1);
    }

    private static void soundTexts() {
        String[] sound = {
            "may 1;joys 2;cools 3;",
            " \n may\n0 ; joys 9999 ; cools 0000 ; \n",
            "may heat or thirst and number or not shown<minute;joys cups=1;cools 1;",
            "may 1 or 2 or 3 and 4 and 5;joys 1+2-3+4*5*6;cools-1;",
            "may((((1))));joys----- 1;cools not not not not not 1;",
            "may 1;joys heat-20+thirst-cups*5;cools 4+shown-(minute<2);",
            "may 1<2 and 2<3;joys not 1<2;cools(1<2)<3;",
            "may-1*-1;joys 2--2;cools 1 +- 1;"};
        for (String s : sound) {
            TepidByTreaty x = new TepidByTreaty();
            T.due(s, Due.text(x, s), 1);
            T.due("texts", x.count(2), 2);
            T.due("tape", x.count(3), 0);
        }
        String whole = "may 1;joys 2;cools 1" + "+1".repeat(69) + " ;";
        TepidByTreaty x = new TepidByTreaty();
        Due.feed(x, whole);
        T.due("a tape of 160", x.count(3), 160);
        T.due("is a text", x.text(), 1);
        x.force(1);
        T.due("of 70 ones", x.minute(0, 0), 40);
        x.set(0, 0, 99);
        T.due("cut at 40", x.minute(0, 0), 59);
    }

    private static void fault(String s, int place) {
        TepidByTreaty x = new TepidByTreaty();
        T.due("[" + s + "]", Due.text(x, s), -100 - place);
        T.due("no text more", x.count(2), 1);
        T.due("tape empty", x.count(3), 0);
    }

    private static void faults() {
        fault("", 0);
        fault("   ", 3);
        fault(" \n joys", 3);
        fault("may", 3);
        fault("may 1", 5);
        fault("may 1 ", 6);
        fault("may 1;", 6);
        fault("may 1;joys 1;cools 1", 20);
        fault("may 1;joys 1;cools 1;;", 21);
        fault("may 1;joys 1;cools 1; may", 22);
        fault("may 1;joys 1;cools 1; @", 22);
        fault("may 1;cools 1;joys 1;", 6);
        fault("may;joys 1;cools 1;", 3);
        fault("mays 1;", 0);
        fault("ma y 1;", 0);
        fault("xay 1;", 0);
        fault("maz 1;", 0);
        fault("mayz 1;", 0);
        fault("amay 1;", 0);
        fault("may zcups;", 4);
        fault("may xeat;", 4);
        fault("may 1 xr 1;", 6);
        fault("may 1 ox 1;", 6);
        fault("may1;joys 1;cools 1", 19);
        fault("may 1 2;", 6);
        fault("may 1 heat;", 6);
        fault("may heats;", 4);
        fault("may Heat;", 4);
        fault("may 1\t;", 5);
        fault("may 1\r;", 5);
        fault("may 1>2;", 5);
        fault("may 1<2<3;", 7);
        fault("may 1=2=3;", 7);
        fault("may 1<2=3;", 7);
        fault("may 1<=2;", 6);
        fault("may 1==2;", 6);
        fault("may 1+not 1;", 6);
        fault("may 1<not 1;", 6);
        fault("may -not 1;", 5);
        fault("may 1*;", 6);
        fault("may 1+;", 6);
        fault("may 1 or;", 8);
        fault("may or 1;", 4);
        fault("may 1 and or 1;", 10);
        fault("may +1;", 4);
        fault("may *1;", 4);
        fault("may 12345;", 4);
        fault("may 00001;", 4);
        fault("may 1 12345;", 6);
        fault("may 99999999999999999999;", 4);
        fault("may ();", 5);
        fault("may (1;", 6);
        fault("may 1);", 5);
        fault("may (1 2);", 7);
        fault("may not;", 7);
        fault("may joys;", 4);
        fault("may may;", 4);
        fault("may 1;joys cools;", 11);
        fault("may 1 joys 1;", 6);
        fault("may 1;joys xyz;@", 11);
        fault("may 1;joys 1;cools 1;" + (char) 233, 21);
        fault("may " + (char) 0 + "1;", 4);
        fault("may 1 `", 6);
        fault("may 1 {", 6);
        fault("may 1 :", 6);
        fault("may 1 /", 6);
    }

    private static void faultsOfDepth() {
        fault("may ((((((1))))));", 9);
        fault("may ------1;", 9);
        fault("may not not not not not not 1;", 24);
        fault("may -(-(-(1)));", 9);
        fault("may not(not(-(1)));", 13);
        fault("may not not 1 + - - - - 1;", 22);
        fault("may (((((-1)))));", 9);
        fault("may (((((not 1)))));", 9);
        TepidByTreaty x = new TepidByTreaty();
        T.due("each ends", Due.text(x, "may (((((1)))))+(((((1)))));joys 1;cools 1;"), 1);
        T.due("minus ends", Due.text(x, "may -----1*-----1- -----1;joys 1;cools 1;"), 2);
        T.due("not ends", Due.text(x, "may not not not not not 1 and not not not not not 1<1;joys 1;cools 1;"), 3);
        T.due("five mixed", Due.text(x, "may not(-(not 1<2));joys not 1+ - - - - 1;cools not 1<(-(-1));"), 4);
        T.due("not stays open behind <", Due.text(x, "may not 1<-----1;joys 1;cools 1;"), -114);
    }

    private static void textFull() {
        TepidByTreaty x = new TepidByTreaty();
        for (int i = 1; i <= 5; i++) {
            T.due("text " + i, Due.text(x, "may 1;joys " + i + ";cools 1;"), i);
        }
        T.due("texts", x.count(2), 6);
        T.due("full on an empty tape", x.text(), -4);
        Due.feed(x, "may @");
        T.due("full ahead of a fault", x.text(), -4);
        T.due("the tape stays", x.count(3), 5);
        T.due("texts still", x.count(2), 6);
        for (int i = 0; i < 6; i++) {
            T.due("force " + i, x.force(i), i == 0 ? 0 : i - 1);
        }
        T.due("force 6", x.force(6), -2);
        x.aunt(0, 0, 1);
        x.force(3);
        T.due("texts are kept apart", x.share(0), 3);
    }

    private static void forceRules() {
        TepidByTreaty x = new TepidByTreaty();
        T.due("force(0)", x.force(0), 0);
        T.due("force(1), none", x.force(1), -2);
        T.due("force(-1)", x.force(-1), -2);
        T.due("force(MAX)", x.force(MAX), -2);
        T.due("force(MIN)", x.force(MIN), -2);
        Due.text(x, "may 1;joys 7;cools 0;");
        T.due("the rule is still the first", x.count(4), 0);
        T.due("force(1)", x.force(1), 0);
        T.due("count(4)", x.count(4), 1);
        T.due("which was", x.force(0), 1);
        T.due("refused", x.force(2), -2);
        T.due("count(4)", x.count(4), 0);
    }

    private static void longTextsLeaveNothing() {
        TepidByTreaty x = new TepidByTreaty();
        for (int k = 0; k < 2; k++) {
            T.due("a long fault", Due.text(x, "may 1" + "+1".repeat(77) + "!"), -259);
        }
        T.due("digits up to the tape's end", Due.text(x, "may " + "9".repeat(156)), -104);
        T.due("too early, whatever stood behind", Due.text(x, "may 1"), -105);
        x = new TepidByTreaty();
        T.due("a tape of 160 that ends too early, by a digit", Due.text(x, "may 1234" + "+7".repeat(76)), -260);
        T.due("by a name", Due.text(x, "may heat" + "*cup".repeat(37) + "*heat"), -109);
        T.due("by a sound one", Due.text(x, "may heat" + "*cups".repeat(30) + "+1"), -260);
        x = new TepidByTreaty();
        T.due("then a text", Due.text(x, "may 2-1; joys 5*7; cools 9-5;"), 1);
        x.force(1);
        x.aunt(0, 0, 1);
        T.due("joys", x.share(0), 35);
        T.due("cools", x.minute(1, 0), 66);
    }

    /** What an E is: by the joy of an AUNT's cup, so within -99 and 99. */
    private static void value(String e, int want) {
        TepidByTreaty x = Due.ruled("may 1;joys " + e + ";cools 0;");
        x.aunt(0, 0, 1);
        T.due(e, x.share(0), want);
    }

    private static void values() {
        value("2+3*4", 14);
        value("(2+3)*4", 20);
        value("9-3-2", 4);
        value("9-(3-2)", 8);
        value("2*3*4-5*2", 14);
        value("-3+5", 2);
        value("- -3", 3);
        value("2--3", 5);
        value("-2*-3", 6);
        value("1<2", 1);
        value("2<1", 0);
        value("2<2", 0);
        value("2=2", 1);
        value("2=3", 0);
        value("-1<0", 1);
        value("1+1<1+2", 1);
        value("1+1=2", 1);
        value("5 or 0", 1);
        value("0 or 0", 0);
        value("0 or 7", 1);
        value("5 and 0", 0);
        value("5 and 7", 1);
        value("0 and 7", 0);
        value("not 0", 1);
        value("not 5", 0);
        value("not -1", 0);
        value("not not 5", 1);
        value("not 1<0", 1);
        value("not 0 and 0", 0);
        value("not (0 and 0)", 1);
        value("1 or 0 and 0", 1);
        value("(1 or 0) and 0", 0);
        value("(not 0)+3", 4);
        value("(1<2)+(2<3)*2", 3);
        value("0042", 42);
        // 9999 * 9999 * 9999 is 999700029999, which wraps to -1027349969
        value("9999*9999*9999<0", 1);
        value("9999*9999*9999+9999*9999*10+9999*2755+2756", 42);
        value("0-9999*9999*9999-9999*9999*10-9999*2755-2672", 42);
    }

    private static void namesOfAnAunt() {
        TepidByTreaty x = Due.ruled("may 1; joys heat; cools 7;");
        x.aunt(0, 4, 1);
        x.aunt(0, 5, 1);
        T.due("heat is as it is when she pours", x.share(0), 73);
        T.due("heat is less by what the first took", x.share(1), 67);
        x = Due.ruled("may 1; joys thirst; cools 0;");
        x.aunt(0, 0, 3);
        T.due("thirst ahead of her cup, 10 and then 2", x.share(0), 12);
        x = Due.ruled("may 1; joys number; cools 0;");
        x.aunt(0, 8, 5);
        T.due("number", x.share(0), 16);
        x = Due.ruled("may 1; joys minute*10; cools 0;");
        x.aunt(0, 0, 0b101100);
        T.due("minute", x.share(0), 100);
        x = Due.ruled("may 1; joys cups*10+1; cools 0;");
        x.aunt(0, 0, 0b111);
        T.due("cups she had, 0 and 1 and 2", x.share(0), 33);
        x.aunt(0, 0, 0b100);
        T.due("cups of hers, not of others", x.share(1), 1);
        x = Due.ruled("may 1; joys shown+1; cools 0;");
        x.aunt(0, 0, 1);
        x.aunt(0, 0, 1);
        x.aunt(0, 0, 0);
        x.set(3, 0, 25);
        x.set(3, 2, 25);
        T.due("others who show: one", x.share(0), 2);
        T.due("others who show, told at the beginning: two", x.share(1), 3);
        x = Due.ruled("may cups<2; joys 1; cools 0;");
        x.aunt(0, 0, 63);
        T.due("may is told each time", x.cups(0), 2);
        x = Due.ruled("may heat<70; joys 1; cools 3;");
        x.aunt(0, 0, 63);
        x.aunt(0, 0, 63);
        // 77, 74, 71, then 68: she pours (62), and the other too (56); 53, 50
        T.due("may is told of the heat then", x.cups(0), 3);
        x = Due.ruled("may -1; joys 1; cools 0;");
        x.aunt(0, 0, 1);
        T.due("may that isn't 0", x.cups(0), 1);
    }

    private static void namesOfNobody() {
        TepidByTreaty x = Due.ruled("may 1; joys 1; cools thirst+number+cups+minute;");
        x.aunt(0, 9, 63);
        x.set(2, 0, 9);
        x.set(0, 0, 99);
        // nothing but the minute counts: 99-0-6, 93-1-6, 86-2-6, 78-3-6, 69-4-6, 59-5-6
        int[] behind = {93, 86, 78, 69, 59, 48};
        for (int m = 0; m < 6; m++) {
            T.due("heat behind minute " + m, x.minute(m, 0), behind[m]);
        }
        x = Due.ruled("may 0; joys 1; cools shown*10;");
        x.aunt(2, 0, 0);
        x.aunt(2, 0, 0);
        x.aunt(0, 0, 0);
        T.due("all who show", x.minute(0, 0), 60);
        x = Due.ruled("may 0; joys 1; cools heat=80 or heat=79;");
        T.due("heat ahead of the cooling", x.minute(0, 0), 79);
        T.due("then", x.minute(1, 0), 78);
        T.due("then no more", x.minute(2, 0), 78);
    }

    private static void bounds() {
        TepidByTreaty x = Due.ruled("may 1; joys 100; cools 0;");
        x.aunt(0, 0, 1);
        x.aunt(1, 0, 1);
        T.due("joys 100 is 99", x.share(0), 99);
        T.due("the bound is of joys, not of the joy", x.share(1), 198);
        x = Due.ruled("may 1; joys -100; cools 0;");
        x.aunt(0, 0, 1);
        T.due("joys -100 is -99", x.share(0), -99);
        x = Due.ruled("may 1; joys -99; cools 0;");
        x.aunt(0, 0, 1);
        T.due("joys -99", x.share(0), -99);
        x = Due.ruled("may 1; joys 1; cools 40;");
        T.due("cools 40", x.minute(0, 0), 40);
        x = Due.ruled("may 1; joys 1; cools 41;");
        T.due("cools 41 is 40", x.minute(0, 0), 40);
        x = Due.ruled("may 1; joys 1; cools -1;");
        T.due("cools -1 is 0", x.minute(0, 0), 80);
        x = Due.ruled("may 1; joys 1; cools 39;");
        x.set(0, 0, 38);
        T.due("heat is 0 at least", x.minute(0, 0), 0);
    }
}
