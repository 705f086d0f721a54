/** The boundary cases of promises 10, 15, 16: price, cost, best. */
public final class CostEdgesTest {
    private static final String IAE = "throws.IllegalArgumentException";
    private static final String SIGNS = "0123456789xyz-!+*^";
    private static final String SUM_7 = "++xx+xx";
    private static final String SUM_15 = "+" + SUM_7 + SUM_7;
    private static final String SUM_29 = "+" + "+" + SUM_7 + "+x+xx" + SUM_15;
    private static final String SUM_59 = "+" + SUM_29 + SUM_29;
    private static final String SUM_31 = "+" + SUM_15 + SUM_15;

    public static void main(String[] args) {
        signsThatHavePrices();
        signsFarOut();
        lowestAndHighestPrice();
        refusedPriceStays();
        priceReadsNoText();
        costOfWhatIsNotThere();
        costOfNoTerm();
        costsBeyondAnInt();
        theDearestTerm();
        bestOfWhatIsNotThere();
        bestOfNoTerm();
        bestOfOneSign();
        bestAtFortyClasses();
        bestOfSixty();
        bestOfSixtyOne();
        longOnlyWhenItIsBest();
        farTooLong();
        leastCostThenFewestSigns();
        leastCostOfLateParts();
        thenTheCodes();
        aClassInsideItself();
        Script.end();
    }

    private static void signsThatHavePrices() {
        for (int code = 0; code < 256; code++) {
            if (code > 0 && SIGNS.indexOf(code) >= 0) {
                String sign = "" + (char) code;
                String term = sign + ("-!".contains(sign) ? "x" : "+*^".contains(sign) ? "xx" : "");
                int nodes = Math.min(term.length(), 2);
                Script.run("promise 10, a sign", "code " + code + " 70 -> done",
                        "add " + term + " -> " + nodes, "cost " + term + " -> " + (69 + term.length()));
            } else {
                Script.run("promise 10, no sign of a term", "code " + code + " 1 !> " + IAE,
                        "code " + code + " 1000000000 !> " + IAE, "code " + code + " 0 !> " + IAE,
                        "place -> -1");
            }
        }
    }

    private static void signsFarOut() {
        int[] codes = {-1, -'x', 'x' + 256, 'x' - 256, 'x' + 65536, 'x' | 1 << 31, 127, 128,
            Integer.MAX_VALUE, Integer.MIN_VALUE};
        for (int code : codes) {
            Script.run("promise 10, far from any sign", "add x -> 1", "code " + code + " 5 !> " + IAE,
                    "cost x -> 1");
        }
    }

    private static void lowestAndHighestPrice() {
        Script.run("promise 10, 1 .. 1000000000", "add x -> 1",
                "price x 2 -> done", "cost x -> 2", "price x 1 -> done", "cost x -> 1",
                "price x 999999999 -> done", "cost x -> 999999999",
                "price x 1000000000 -> done", "cost x -> 1000000000");
        for (int price : new int[] {0, -1, 1000000001, -1000000000, Integer.MAX_VALUE,
            Integer.MIN_VALUE}) {
            Script.run("promise 10, not 1 .. 1000000000", "add x -> 1", "price x 7 -> done",
                    "price x " + price + " !> " + IAE, "cost x -> 7", "price - " + price + " !> " + IAE,
                    "add -x -> 2", "cost -x -> 8");
        }
    }

    private static void refusedPriceStays() {
        Script.run("promise 10, refused", "unite x=y -> 1", "price x 3 -> done", "price y 2 -> done",
                "price a 1 !> " + IAE, "price x 0 !> " + IAE, "price = 1 !> " + IAE,
                "best x -> 1", "text -> y", "wipe -> 1", "price y 1000000001 !> " + IAE,
                "best x -> 1", "text -> y", "cost . -> 2", "price y 4 -> done", "best x -> 1",
                "text -> x");
    }

    private static void priceReadsNoText() {
        Script.run("promise 10, the text stays", "type +x -> 2", "price x 9 -> done", "text -> +x",
                "price a 9 !> " + IAE, "text -> +x", "place -> -1", "nodes -> 0");
    }

    private static void costOfWhatIsNotThere() {
        Script.run("promise 15, not there", "cost x -> -1", "text -> ", "add -x -> 2", "cost --x -> -1",
                "text -> ", "cost y -> -1", "cost -y -> -1", "cost !x -> -1", "cost x -> 1", "text -> ",
                "cost -x -> 2", "text -> ", "nodes -> 2", "classes -> 2", "place -> -1");
    }

    private static void costOfNoTerm() {
        Script.run("promise 15, no term", "add x -> 1", "cost . !> " + IAE, "place -> 0",
                "cost - !> " + IAE, "place -> 1", "cost xx !> " + IAE, "place -> 2", "text -> -xx",
                "wipe -> 3", "cost x=x !> " + IAE, "place -> 1", "wipe -> 3", "cost a !> " + IAE);
    }

    private static void costsBeyondAnInt() {
        Script.run("promise 15, beyond an int", "add +xy -> 3", "add -+xy -> 4",
                "price x 1000000000 -> done", "price y 1000000000 -> done",
                "price + 147483647 -> done", "cost +xy -> 2147483647",
                "price + 147483648 -> done", "cost +xy -> 2147483648", "cost -+xy -> 2147483649",
                "add ++xy+xy -> 5", "cost ++xy+xy -> 4442450944",
                "price + 98322432 -> done", "cost ++xy+xy -> 4294967296",
                "best ++xy+xy -> 7", "text -> ++xy+xy");
        // A sum that loses its high bits would look cheaper than z.
        Script.run("promise 16, beyond an int", "price x 1000000000 -> done",
                "price + 765432099 -> done", "price z 1000000000 -> done",
                "unite z=++xx+xx -> 3", "cost z -> 1000000000", "best z -> 1", "text -> z");
    }

    /** The dearest text has sixty signs of the highest price each: far below 2^62, so never OVER. */
    private static void theDearestTerm() {
        String dear = " 1000000000 -> done";
        Script.run("promise 15, sixty of the highest price",
                "price x" + dear, "price +" + dear, "price -" + dear, "price !" + dear,
                "add -" + SUM_59 + " -> 9", "cost " + SUM_59 + " -> 59000000000",
                "cost -" + SUM_59 + " -> 60000000000", "best -" + SUM_59 + " -> 60",
                "text -> -" + SUM_59);
        // The largest classes that rounds can make are no text's, but they are weighed, too.
        Script.run("promise 15, beside classes of far higher cost", "price x" + dear, "price +" + dear,
                "price -" + dear, "price !" + dear, "add !" + SUM_59 + " -> 9",
                "rule !a=!+a+aa -> 1", "rounds 20 -> -2", "nodes -> 39",
                "cost !" + SUM_59 + " -> 60000000000", "best !" + SUM_59 + " -> 60",
                "text -> !" + SUM_59);
    }

    private static void bestOfWhatIsNotThere() {
        Script.run("promise 16, not there", "best x -> -1", "text -> ", "add -x -> 2",
                "best --x -> -1", "text -> ", "best y -> -1", "best -y -> -1", "best !x -> -1",
                "text -> ", "nodes -> 2", "classes -> 2", "place -> -1");
    }

    private static void bestOfNoTerm() {
        Script.run("promise 16, no term", "add x -> 1", "best . !> " + IAE, "place -> 0",
                "best - !> " + IAE, "place -> 1", "best xx !> " + IAE, "place -> 2", "text -> -xx",
                "wipe -> 3", "best x=x !> " + IAE, "place -> 1", "wipe -> 3", "best a !> " + IAE);
    }

    private static void bestOfOneSign() {
        Script.run("promise 16, one sign", "unite " + SUM_31 + "=0 -> 5", "best " + SUM_31 + " -> 1",
                "text -> 0", "character 1 -> -1", "type = -> 2", "same 0 -> 1");
    }

    private static void bestAtFortyClasses() {
        String forty = "-".repeat(39) + "x";
        Script.run("promises 15, 16, forty classes", "add " + forty + " -> 40", "classes -> 40",
                "cost " + forty + " -> 40", "best " + forty + " -> 40", "text -> " + forty,
                "wipe -> 40", "best x -> 1", "text -> x", "cost . -> 1", "unite x=-x -> 1",
                "best " + forty + " -> 1", "text -> x");
    }

    /** All digits are dear; of the long terms 0 is 29 signs, 1 is 59, 2 is 60 and 3 is 61. */
    private static Script longTerms() {
        Script run = new Script("promise 16, sixty signs");
        run.lines("price 0 1000 -> done", "price 1 1000 -> done", "price 2 1000 -> done",
                "price 3 1000 -> done", "unite 0=" + SUM_29 + " -> 7", "unite 1=+00 -> 8",
                "unite 2=-1 -> 9", "unite 3=-2 -> 10");
        return run;
    }

    private static void bestOfSixty() {
        longTerms().lines("best 0 -> 29", "text -> " + SUM_29, "wipe -> 29",
                "best 1 -> 59", "text -> " + SUM_59, "type x -> 60", "wipe -> 60",
                "cost 2 -> 60", "best 2 -> 60", "text -> -" + SUM_59, "type x -> -1", "best . -> 60",
                "text -> -" + SUM_59);
    }

    private static void bestOfSixtyOne() {
        longTerms().lines("cost 3 -> 61", "best 3 -> -4", "text -> ", "wipe -> 0", "best -2 -> -4",
                "text -> ", "best --1 -> -4", "text -> ", "place -> -1", "nodes -> 14",
                "classes -> 10", "cost 3 -> 61", "members 3 -> 2", "best 2 -> 60");
    }

    private static void longOnlyWhenItIsBest() {
        longTerms().lines("price 3 62 -> done", "cost 3 -> 61", "best 3 -> -4", "text -> ",
                "price 3 61 -> done", "cost 3 -> 61", "best 3 -> 1", "text -> 3", "wipe -> 1",
                "price 3 60 -> done", "best -2 -> 1", "text -> 3", "wipe -> 1",
                "price 3 1000 -> done", "best 3 -> -4", "text -> ", "price 2 1 -> done",
                "best 3 -> 2", "text -> -2");
    }

    private static void farTooLong() {
        Script run = new Script("promise 16, LONG by far");
        run.lines("price 0 1000000000 -> done", "unite 0=" + SUM_31 + " -> 5", "best 0 -> 31",
                "wipe -> 31");
        String digits = "0123456789";
        int signs = 31;
        for (int i = 1; i < digits.length(); i++) {
            char part = digits.charAt(i - 1);
            char sum = digits.charAt(i);
            signs = 2 * signs + 1;
            run.lines("price " + sum + " 1000000000 -> done",
                    "unite " + sum + "=*" + part + part + " -> " + (5 + i), "cost " + sum + " -> " + signs,
                    "best " + sum + " -> -4", "text -> ");
        }
        run.lines("price 9 16383 -> done", "best 9 -> 1", "text -> 9", "wipe -> 1",
                "price 9 16384 -> done", "best 9 -> -4", "text -> ");
    }

    private static void leastCostThenFewestSigns() {
        Script.run("the least cost", "unite 0=-x -> 2", "price 0 3 -> done", "best 0 -> 2",
                "text -> -x", "wipe -> 2", "price 0 2 -> done", "best 0 -> 1", "text -> 0",
                "wipe -> 1", "price 0 1 -> done", "best 0 -> 1");
        Script.run("the fewest signs, whichever is there first", "unite -x=0 -> 2",
                "price 0 2 -> done", "best 0 -> 1", "text -> 0", "wipe -> 1", "add !-x -> 4",
                "best !-x -> 2", "text -> !0", "wipe -> 2", "unite 1=!!2 -> 6", "price 1 3 -> done",
                "best !!2 -> 1", "text -> 1");
        Script.run("the fewest signs, with parts", "unite 0=-x -> 2", "price 0 2 -> done",
                "unite y=*0-0 -> 4", "price y 9 -> done", "cost y -> 6", "best y -> 4",
                "text -> *0-0", "wipe -> 4", "price 0 3 -> done", "best y -> 6", "text -> *-x--x");
    }

    /** Each class gets its cheapest term behind those that are made of it. */
    private static void leastCostOfLateParts() {
        Script run = new Script("the least cost, late parts");
        for (int i = 0; i < 9; i++) {
            run.lines("price " + (9 - i) + " 1000 -> done",
                    "unite " + (9 - i) + "=-" + (8 - i) + " -> " + (2 + i));
        }
        run.lines("price 0 1000 -> done", "cost 9 -> 1000", "cost 0 -> 1000", "unite 0=x -> 10",
                "cost 0 -> 1", "cost 9 -> 10", "best 9 -> 10", "text -> ---------x");
    }

    private static void thenTheCodes() {
        String leaves = "0123456789xyz";
        for (int i = 0; i + 1 < leaves.length(); i++) {
            before("" + leaves.charAt(i), "" + leaves.charAt(i + 1), 1);
        }
        before("!x", "-x", 2);
        before("!!x", "*xx", 3);
        before("*xx", "+xx", 2);
        before("+xx", "--x", 3);
        before("--x", "^xx", 3);
        before("+-x0", "+0-x", 4);
        before("*9^00", "*^009", 4);
        before("*^00x", "*x^00", 4);
        before("+xy", "+xz", 4);
        before("+y0", "+z0", 4);
    }

    private static void before(String low, String high, int classes) {
        int length = low.length();
        Script.run("the codes", "unite " + high + "=" + low + " -> " + classes,
                "best " + high + " -> " + length, "text -> " + low);
        Script.run("the codes", "unite " + low + "=" + high + " -> " + classes,
                "best " + high + " -> " + length, "text -> " + low);
    }

    private static void aClassInsideItself() {
        Script.run("a class inside itself", "unite x=-x -> 1", "unite x=+xx -> 1", "best x -> 1",
                "text -> x", "wipe -> 1", "price x 1000000000 -> done", "best -x -> 1", "text -> x",
                "wipe -> 1", "cost +x-x -> 1000000000", "unite x=^00 -> 2", "best -x -> 3",
                "text -> ^00", "wipe -> 3", "cost x -> 3");
    }
}
