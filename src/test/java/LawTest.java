/** Promise 5: the law as a text, its FAULTS, and what its RULES mean. */
public final class LawTest {
    private LawTest() {
    }

    public static void main(String[] args) {
        grammar();
        sizes();
        faults();
        depths();
        faultsByNumber();
        everyByte();
        values();
        letters();
        wrapsAround();
        conditions();
        refused();
        refusedOfEach();
        bounds();
        Checks.end("LawTest");
    }

    private static void due(String call, long want, long got) {
        Checks.due(call, want, got);
    }

    private static void takes(int rules, String law) {
        due("law " + law, rules, Checks.law(new OnionCourt(), law));
    }

    private static String ones(int rules) {
        return TestCourt.times(rules, "g1(1=1)", ";");
    }

    private static void grammar() {
        takes(1, "l5(w=0)");
        takes(3, "l5(w=0);c3(z=1);b9(t>2)");
        takes(16, ones(16));
        takes(1, "yw+h-s*j/k%f+z-t(w<h&s>j|!k=f&!(z=t))");
        takes(1, "b99999(00000=0)");
        takes(1, "y[[[[[[5]]]]]]((((((w=0))))))");
        takes(1, "y1(!!!!!1=1&!!!!!1=1|!!!!!1=1)");
        takes(1, "y1((((((1=1)))))&[[[[[1]]]]]=[[[[[1]]]]])");
        takes(1, "g[1]+[2]*[w%3](!(1=1)&(1=2|[3]<4))");
        OnionCourt x = new OnionCourt();
        Checks.law(x, ones(3));
        due("RULES", 3, x.count(4));
        Checks.law(x, ones(1));
        due("in place of the one before", 1, x.count(4));
        x.witness(0, 0);
        Checks.onion(x, 0, "50");
        Checks.law(x, "g1(1=2);g9(1=1)");
        Checks.law(x, "g1(1=2)");
        x.weeks(1);
        due("no RULE of the one before", 50, x.witnessIs(0, 10));
        Checks.law(x, TestCourt.times(15, "g1(1=2)", ";") + ";g1+[1+[1+[1+[1+[1+[1]]]]]](1=1)");
        x.weeks(1);
        due("the 16th RULE", 57, x.witnessIs(0, 10));
    }

    private static void sizes() {
        OnionCourt x = new OnionCourt();
        String longest = "l1" + TestCourt.times(117, "1", "+") + "(1=1)";
        due("length", 240, longest.length());
        due("240 bytes", 1, Checks.law(x, longest));
        due("empty then", 0, x.count(5));
        Checks.feed(x, TestCourt.times(241, "1", ""));
        for (int n : new int[] {241, 260, 261, 0, -1, Integer.MAX_VALUE, Integer.MIN_VALUE}) {
            due("law " + n, -1, x.law(n));
        }
        due("the tape stays", 260, x.count(5));
        due("240 of these", -1000, x.law(240));
        due("empty after a FAULT", 0, x.count(5));
        due("not so many", -1, x.law(1));
        Checks.feed(x, "l5(w=0)");
        due("not so many", -1, x.law(21));
        due("the tape stays", 20, x.count(5));
        due("THE LAW stays", 1, x.count(4));
        due("the end of 20", -1007, x.law(20));
    }

    private static void faults() {
        String[] texts = {"w5(w=0)", "L5(w=0)", ";", " l5(w=0)", "5(w=0)", "l", "c(w=0)", "g5", "g5;", "y5(", "y5()", "y5(w",
            "y5(w)", "y5(w=", "y5(w=)", "b5(w=0", "b5(w=0)l", "b5(w=0);", "b5(w=0);;", "l5(a=0)", "l5(w==0)", "l5(w=0=0)",
            "l5(w=0&)", "l5(w=0|&w=0)", "l5(!)", "l5(!&w=0)", "l5((w=0)", "l5((w)=0)", "l5([w=0])", "l5([w]=0", "l[5(w=0)",
            "l5](w=0)", "l-5(w=0)", "l5+(w=0)", "l5*/2(w=0)", "l5w(w=0)", "lww(w=0)", "l5(w=0)(w=0)", "l5 (w=0)",
            "l(5)(w=0)", "l5(w!=0)", "l5(w=!0)", "l[](w=0)", "l5(w=0));c5(w=0)", "l5(\u00ff=0)", "lE(w=0)", "l5(0<1>2)",
            "l5(w=0);x1(w=0)", "l5(w=(0))", "l5((w=0)&[w=0])", "l5(w=0&w)", "l5(w=0|)", "l5(1=1,1=1)", "l5(5", "l5:(w=0)", "l:(w=0)", "l5(w=0:)"};
        int[] places = {0, 0, 0, 0, 0, 1, 1, 2, 2, 3, 3, 4,
            4, 5, 5, 6, 7, 8, 8, 3, 5, 6,
            7, 7, 4, 4, 8, 5, 5, 8, 3,
            2, 1, 3, 3, 2, 2, 7, 2,
            1, 4, 5, 2, 7, 3, 1, 6,
            8, 5, 11, 8, 7, 6, 4, 2, 1, 6};
        for (int i = 0; i < texts.length; i++) {
            takes(-1000 - places[i], texts[i]);
        }
    }

    private static void depths() {
        takes(-5008, "g5(((((((w=0)))))))");
        takes(-5007, "g[[[[[[[5]]]]]]](w=0)");
        takes(-5008, "g5(!!!!!!w=0)");
        takes(-5008, "g5(!!!!![w]=0)");
        takes(-5010, "g5(!!!!!w=[0])");
        takes(-5008, "g5((!(!([w]=0))))");
        takes(-5017, "g5(!!!!!1=1&!!!!!!w=0)");
        takes(-5016, "g5(((w=0))&((((((1=1)))))))");
        takes(1, "g5((!(!(w=0))))");
        takes(1, "g5(!!!!!w=0)");
        takes(1, "g5(!!!![w]=0)");
    }

    private static void faultsByNumber() {
        takes(-2006, "c123456(w=0)");
        takes(-2006, "c1234567(w=0)");
        takes(-2010, "c1(w=000000)");
        takes(-2008, "c1(000000=w)");
        takes(-4128, ones(17));
        takes(-4128, ones(16) + ";g");
        takes(-1128, ones(16) + ";x");
        takes(-1128, ones(16) + ";");
        takes(-1127, ones(16) + "g1(1=1)");
        takes(-1003, "g5()((((((((w=123456");
        OnionCourt x = new OnionCourt();
        Checks.law(x, ones(2));
        due("a FAULT", -1013, Checks.law(x, "g9(1=1);g9(1=!1)"));
        due("the one before stays", 2, x.count(4));
        x.witness(0, 0);
        Checks.onion(x, 0, "5");
        x.weeks(1);
        due("the one before stays", 6, x.witnessIs(0, 10));
    }

    /** Each byte at each place of a RULE: a byte 0 is no end, and bytes above 127 are not below 0. */
    private static void everyByte() {
        for (char sign = 0; sign < 256; sign++) {
            boolean isDigit = "0123456789".indexOf(sign) >= 0;
            boolean isBetween = "+-*/%".indexOf(sign) >= 0;
            takes("lcgyb".indexOf(sign) >= 0 ? -1001 : -1000, "" + sign);
            takes(isDigit || "whsjkfzt".indexOf(sign) >= 0 ? 1 : sign == '[' ? -1002 : -1001, "g" + sign + "(1=1)");
            takes(isDigit ? 1 : isBetween ? -1003 : sign == '(' ? -1008 : -1002, "g1" + sign + "(1=1)");
            takes("<>=".indexOf(sign) >= 0 ? 1 : isDigit || isBetween ? -1006 : -1004, "g1(1" + sign + "1)");
            takes("&|".indexOf(sign) >= 0 ? 1 : isDigit || isBetween ? -1008 : sign == ')' ? -1007 : -1006, "g1(1=1" + sign + "1=1)");
            takes(sign == ';' ? -1008 : -1007, "g1(1=1)" + sign);
        }
    }

    /** By how much a LAYER of 50 grows in a WEEK (w 3, h 7, s 50, j 2, t 4). */
    private static int grown(String law) {
        OnionCourt x = new OnionCourt();
        x.weeks(4);
        x.witness(3, 7);
        Checks.onion(x, 3, "50x2");
        if (Checks.law(x, law) < 0) {
            return -1;
        }
        x.weeks(1);
        return x.witnessIs(3, 10) - 50;
    }

    private static void grows(int want, String law) {
        due("by " + law, want, grown(law));
    }

    private static void values() {
        grows(7, "g7(1=1)");
        grows(7, "g00007(1=1)");
        grows(0, "g7(1=2)");
        grows(4, "g3(1=2);g4(1=1);g5(1=1)");
        grows(4, "l1(1=1);c1(1=1);b0(1=1);g4(1=1)");
        grows(3, "g9-4-2(1=1)");
        grows(7, "g9-4+2(1=1)");
        grows(7, "g1+2*3(1=1)");
        grows(9, "g[1+2]*3(1=1)");
        grows(2, "g20/5/2(1=1)");
        grows(6, "g17%5*3(1=1)");
        grows(4, "g2*17%5(1=1)");
        grows(3, "g7/2(1=1)");
        grows(7, "g10+[0-7]/2(1=1)");
        grows(9, "g10+[0-7]%2(1=1)");
        grows(11, "g[3-[2-[1+4]]]+[5](1=1)");
    }

    private static void letters() {
        grows(3, "gw(1=1)");
        grows(7, "gh(1=1)");
        grows(10, "gs-40(1=1)");
        grows(2, "gj(1=1)");
        grows(4, "gt(1=1)");
        grows(6, "g6+k+f+z(1=1)");
        grows(6, "g6(k=0&f=0&z=0)");
        grows(6, "g6(w=3&h=7&s=50&j=2&t=4)");
    }

    private static void wrapsAround() {
        grows(5, "g5(99999*99999=14098*99999+79507)");
        grows(5, "g5(65536*65536=0)");
        grows(0, "g65536*32768(1=1)");
        grows(20, "g65536*32768-1(1=1)");
        grows(5, "g5(65536*32768<0)");
        grows(5, "g5(65536*32767+65535+1=65536*32768)");
        grows(5, "g5(65536*32768/[0-1]=65536*32768)");
        grows(5, "g5(65536*32768%[0-1]=0)");
        grows(5, "g5(0-1<0)");
    }

    private static void conditions() {
        grows(5, "g5(1<2)");
        grows(0, "g5(2<2)");
        grows(5, "g5(3>2)");
        grows(0, "g5(2>2)");
        grows(0, "g5(2=3)");
        grows(0, "g5(1=1&1=2)");
        grows(0, "g5(1=2&1=1)");
        grows(5, "g5(1=2|1=1)");
        grows(5, "g5(1=1|1=2)");
        grows(0, "g5(1=2|1=2)");
        grows(5, "g5(1=1|1=1&1=2)");
        grows(0, "g5((1=1|1=1)&1=2)");
        grows(0, "g5(!1=2&1=2)");
        grows(5, "g5(!1=1|1=1)");
        grows(5, "g5(!(1=2&1=2))");
        grows(5, "g5(1=1&!1=2)");
        grows(0, "g5(1=1&!1=1)");
        grows(5, "g5(1=2|!1=2)");
        grows(5, "g5(1=2|1=1&!(1=1&!1=1))");
        grows(5, "g5(!!1=1)");
        grows(0, "g5(!!!1=1)");
        grows(5, "g5(1+1=4/2)");
    }

    private static void refused() {
        grows(0, "g5/0(1=1);g7(1=1)");
        grows(0, "g5%0(1=1);g7(1=1)");
        grows(0, "g5+1/0*0(1=1)");
        grows(0, "g[1/0]+5(1=1)");
        grows(7, "g5(1/0=0);g7(1=1)");
        grows(7, "g5(1%0=0);g7(1=1)");
        grows(7, "g5(0%0=0);g7(1=1)");
        grows(7, "g5(0=1/0);g7(1=1)");
        grows(7, "g5(0<1/0);g7(1=1)");
        grows(7, "g5(!1/0=0);g7(1=1)");
        grows(7, "g5(!(1=1&1/0=0));g7(1=1)");
        grows(7, "g5(!1/0=0|1=1);g7(1=1)");
        grows(7, "g5(!!1/0=0|1=1);g7(1=1)");
        grows(7, "g5((!1/0=0)|1=1);g7(1=1)");
        grows(7, "g5(1=2|!1/0=0|1=1);g7(1=1)");
        grows(7, "g5(!(!(1/0=0|1=1)|1=1)|1=1);g7(1=1)");
        grows(7, "g5(1/0=0|1=1);g7(1=1)");
        grows(7, "g5((1=2|1/0=0)|1=1);g7(1=1)");
        grows(7, "g5(!(1/0=0&1=2));g7(1=1)");
        grows(7, "g5(1=1&1/0=0|1=1);g7(1=1)");
        grows(7, "g5(w/[w-3]=0);g7(1=1)");
        grows(5, "g5(1=1|1/0=0)");
        grows(5, "g5(!(1=2&1/0=0))");
        grows(5, "g5(1=2&1/0=0|1=1)");
        grows(5, "g5(1=2&1=1&1/0=0|1=1)");
        grows(5, "g5(1=2|1=1|1/0=0)");
    }

    /** What is divided by 0 in the RULES of every letter: an E is 0, a C does not hold, so that the next RULE is asked. */
    private static void refusedOfEach() {
        grows(-9, "y9(1=1)");
        grows(0, "y9/0(1=1);y9(1=1)");
        grows(-9, "y7(1/0=1);y9(1=1)");
        OnionCourt x = TestCourt.made();
        x.answers(0, 0, true, true);
        String[] laws = {"l2(1=1);c5(1=1)", "l2/0(1=1);l2(1=1);c5(1=1)", "l7(1/0=1);l2(1=1);c5(1=1)", "l5(1=1);c4+4*f(1=1)",
            "l5(1=1);c4+4/[1-f]*0(1=1);c9(1=1)", "l5(1=1);c1(1/f=1);c4(1=1)", "l5(1=1);c3/z(1=1)"};
        int[] above = {4, 1, 4, 2, 0, 1, 0};
        int[] below = {5, 1, 5, 3, 1, 5, 1};
        for (int i = 0; i < laws.length; i++) {
            Checks.law(x, laws[i]);
            due(laws[i] + ", above", above[i], x.likely(0, 1, 0));
            due(laws[i] + ", below", below[i], x.likely(0, 1, 1));
        }
        Checks.law(x, "b10(1=1)");
        Checks.onion(x, 1, "5");
        due("b: one LAYER on eleven, eleven on one", 12, x.tried(60, 0));
        Checks.law(x, "b10/0(1=1);b10(1=1)");
        due("b is 0", 0, x.tried(60, 0));
        Checks.law(x, "b0(1%0=0);b10(1=1)");
        due("the next b", 12, x.tried(60, 0));
    }

    /** The bounds of l and c are told by likelihoods, that of b by a sprout at every DRAW. */
    private static void bounds() {
        grows(20, "g20(1=1)");
        grows(20, "g21(1=1)");
        grows(20, "g99999(1=1)");
        grows(0, "g1-2(1=1)");
        grows(-20, "y21(1=1)");
        grows(-20, "y99999(1=1)");
        grows(0, "y1-2(1=1)");
        OnionCourt x = TestCourt.made();
        x.answers(0, 0, true, true);
        Checks.law(x, "l11(1=1);c5(1=1)");
        due("l 10", 0, x.likely(0, 1, 0));
        Checks.law(x, "l0-1(1=1);c5(1=1)");
        due("l 0", 1, x.likely(0, 1, 1));
        Checks.law(x, "l5(1=1);c9-9*f+4*9(1=1)");
        due("c 10", 1, x.likely(0, 1, 0));
        due("c 10", 2, x.likely(0, 1, 1));
        Checks.law(x, "l5(1=1);c5-9*f(1=1)");
        due("c 0", 0, x.likely(0, 1, 0));
        x.witness(0, 1);
        x.witness(1, 1);
        Checks.onion(x, 0, "5");
        Checks.law(x, "b0-1(1=1)");
        due("b 0", 0, x.tried(11, 0));
        Checks.law(x, "b99(1=1)");
        due("b 10", 11, x.tried(11, 0));
        Checks.law(x, "b11(1=1)");
        due("b 10", 11, x.tried(60, 0));
    }
}
