/** Promises 10, 15, 16: price, cost, best. */
public final class BestTest {
    private static final String IAE = "throws.IllegalArgumentException";
    private static final String SUM_15 = "+++xx+xx++xx+xx";
    private static final String SUM_31 = "+" + SUM_15 + SUM_15;

    public static void main(String[] args) {
        prices();
        costs();
        costsOfLateParts();
        bests();
        ties();
        longTerms();
        farMoreSigns();
        Script.end();
    }

    private static void prices() {
        Script.run("promise 10",
                "price x 1 -> done", "price x 0 -> " + IAE, "price x -1 -> " + IAE,
                "price x 1000000001 -> " + IAE, "price x -2147483648 -> " + IAE,
                "add x -> 1", "cost x -> 1", "price x 1000000000 -> done", "cost x -> 1000000000",
                "price x 1000000001 -> " + IAE, "cost x -> 1000000000", "place -> -1",
                "price a 1 -> " + IAE, "price = 1 -> " + IAE);
    }

    private static void costs() {
        Script.run("promise 15",
                "cost x -> -1", "text -> ", "add *+xy-z -> 6", "cost *+xy-z -> 6", "text -> ",
                "price * 100 -> done", "price + 20 -> done", "price - 3 -> done",
                "price x 1000 -> done", "cost *+xy-z -> 1125", "cost -z -> 4", "cost !z -> -1",
                "cost z= -> " + IAE, "text -> z=", "wipe -> 2",
                "unite +xy=-z -> 5", "cost +xy -> 4", "cost *+xy-z -> 108",
                "unite z=*-z-z -> 4", "cost z -> 1", "price z 500 -> done",
                "cost z -> 500", "unite z=0 -> 4", "cost z -> 1", "cost *-zz -> -1");
        Script.run("promise 15, the sum is a long",
                "price + 1000000000 -> done", "price x 1000000000 -> done",
                "add " + SUM_31 + " -> 5",
                "cost " + SUM_31 + " -> 31000000000");
    }

    /** What makes each class cheap comes to be behind all that is made of it. */
    private static void costsOfLateParts() {
        Script.run("promise 15, late parts",
                "price 1 100 -> done", "price 2 100 -> done", "price 3 100 -> done",
                "price 4 100 -> done", "price 5 100 -> done",
                "unite 5=-4 -> 2", "unite 4=-3 -> 3", "unite 3=-2 -> 4", "unite 2=-1 -> 5",
                "cost 5 -> 100", "cost 2 -> 100", "unite 1=x -> 5", "cost 5 -> 5", "best 5 -> 5",
                "text -> ----x", "wipe -> 5", "best 2 -> 2", "text -> -x");
    }

    private static void bests() {
        Script.run("promise 16",
                "best x -> -1", "text -> ", "unite +xy=*x2 -> 4", "best +xy -> 3", "text -> *x2",
                "best . -> 3", "wipe -> 3", "price * 2 -> done", "best *x2 -> 3", "text -> +xy",
                "wipe -> 3", "best *2x -> -1", "text -> ", "best *2x= -> " + IAE, "text -> *2x=",
                "wipe -> 4");
        Script.run("promise 16, the cheapest, not the shortest",
                "unite ^xx=x -> 1", "unite *yz=+-yz -> 5", "price * 5 -> done", "best *yz -> 4",
                "text -> +-yz", "wipe -> 4", "price * 1 -> done", "best +-yz -> 3", "text -> *yz",
                "wipe -> 3", "best ^x^xx -> 1", "text -> x");
        Script.run("promise 16, after rounds",
                "rule *a1=a -> 1", "rule +a0=a -> 2", "rule +ab=+ba -> 3", "add +0*+z01 -> 6",
                "rounds 20 -> 1", "best +0*+z01 -> 1", "text -> z");
        Script.run("promise 16, best of parts",
                "unite +xx=y -> 2", "unite *yy=z -> 3", "unite -*yy=--z -> 4",
                "price z 9 -> done", "price y 9 -> done", "best -z -> 8", "text -> -*+xx+xx",
                "wipe -> 8", "price + 20 -> done", "best -z -> 2", "text -> -z", "wipe -> 2",
                "cost -z -> 10");
    }

    private static void ties() {
        Script.run("of equal cost the fewest signs",
                "unite x=-y -> 2", "price x 2 -> done", "best x -> 1", "text -> x", "wipe -> 1",
                "unite !z=+0*12 -> 8", "price ! 4 -> done", "cost !z -> 5", "best !z -> 2",
                "text -> !z", "wipe -> 2", "price ! 5 -> done", "best !z -> 5", "text -> +0*12");
        Script.run("of equal cost the fewest signs, the other way round",
                "unite -y=x -> 2", "price x 2 -> done", "best -y -> 1", "text -> x", "wipe -> 1",
                "add !x -> 4", "best !-y -> 2", "text -> !x");
        Script.run("of equal cost and signs the first by codes",
                "unite z=y -> 1", "best z -> 1", "text -> y", "wipe -> 1", "unite y=x -> 1",
                "best z -> 1", "text -> x", "wipe -> 1", "unite z=7 -> 1", "best x -> 1",
                "text -> 7", "wipe -> 1", "unite 7=3 -> 1", "best x -> 1", "text -> 3");
        Script.run("codes of the signs",
                "unite ^01=+01 -> 3", "best ^01 -> 3", "text -> +01", "wipe -> 3",
                "unite +01=*01 -> 3", "best ^01 -> 3", "text -> *01", "wipe -> 3",
                "unite --x=*01 -> 5", "best ^01 -> 3", "text -> *01", "wipe -> 3",
                "unite !-x=*01 -> 5", "best ^01 -> 3", "text -> !-x", "wipe -> 3",
                "unite !!y=!-x -> 7", "best ^01 -> 3", "text -> !!y");
        Script.run("from the front, parts of other lengths",
                "unite +x*yz=+*yzx -> 5", "best +x*yz -> 5", "text -> +*yzx", "wipe -> 5",
                "unite +0*yz=+*yz1 -> 8", "best +0*yz -> 5", "text -> +*yz1", "wipe -> 5",
                "unite +-2*3x=+0^0!0 -> 15", "best +-2*3x -> 6", "text -> +-2*3x");
        Script.run("the same from the first difference on",
                "unite +xy=+xz -> 4", "best +xz -> 3", "text -> +xy", "wipe -> 3",
                "unite +x-y=+x-z -> 7", "unite y=0 -> 7", "best +x-z -> 4", "text -> +x-0");
    }

    /** y and z stand for sums of 31 and 15 signs, but are dear, and so is '^'. */
    private static void longTerms() {
        String thirteen = "-".repeat(13);
        Script.run("promise 16, LONG",
                "unite y=" + SUM_31 + " -> 5", "unite z=" + SUM_15 + " -> 5",
                "price y 1000 -> done", "price z 1000 -> done", "price ^ 1000 -> done",
                "unite ^y" + thirteen + "z=+y" + thirteen + "z -> 19",
                "cost ^y" + thirteen + "z -> 60", "best ^y" + thirteen + "z -> 60",
                "text -> +" + SUM_31 + thirteen + SUM_15, "type x -> -1", "best . -> 60", "wipe -> 60",
                "unite ^y-" + thirteen + "z=+y-" + thirteen + "z -> 21",
                "best ^y-" + thirteen + "z -> -4", "text -> ", "cost ^y-" + thirteen + "z -> 61",
                "price ^ 1 -> done", "price y 2 -> done", "best ^y-" + thirteen + "z -> 31",
                "text -> +y" + thirteen + "-" + SUM_15, "wipe -> 31",
                "best y -> 1", "text -> y");
    }

    private static void farMoreSigns() {
        // Each round doubles: the sum of the newest class with itself is in a new class.
        Script.run("promise 16, far more than sixty",
                "add x -> 1", "rule a=-+aa -> 1", "rounds 19 -> 19", "nodes -> 39", "classes -> 20",
                "cost " + SUM_31 + " -> 31", "best " + SUM_31 + " -> 31", "text -> " + SUM_31,
                "wipe -> 31", "price x 1000000000 -> done", "price + 1000000000 -> done",
                "cost " + SUM_31 + " -> 31000000000");
    }
}
