/** Promises 1 to 5: a new object, type, wipe, character, place. */
public final class TextTest {
    private static final String IAE = "throws.IllegalArgumentException";
    private static final String FIFTY_FIVE = "-".repeat(54) + "x";

    public static void main(String[] args) {
        newObject();
        typeAndWipe();
        bytesTyped();
        lengthLimit();
        place();
        objectsApart();
        Script.end();
    }

    private static void newObject() {
        Script.run("promise 1",
                "text -> ", "wipe -> 0", "character 0 -> -1", "place -> -1",
                "nodes -> 0", "classes -> 0", "rounds 20 -> 0", "nodes -> 0",
                "members x -> -1", "cost 0 -> -1", "best +xy -> -1", "same x=x -> -1",
                "rule a=a -> 1");
    }

    private static void typeAndWipe() {
        Script.run("promises 2, 3, 4",
                "type +xy -> 3", "type * -> 4", "text -> +xy*",
                "character 0 -> 43", "character 1 -> 120", "character 3 -> 42",
                "character 4 -> -1", "character -1 -> -1", "character 60 -> -1",
                "character 2147483647 -> -1", "character -2147483648 -> -1",
                "wipe -> 4", "character 0 -> -1", "wipe -> 0",
                "type z -> 1", "text -> z", "wipe -> 1");
    }

    private static void bytesTyped() {
        Script.run("promise 2, bytes",
                "bytes 4142434445464748 8 -> 8", "bytes 4142434445464748 3 -> 11",
                "bytes FFFFFFFFFFFFFF21 1 -> 12", "bytes 7E 1 -> 13", "text -> ABCDEFGHFGH!~",
                "bytes 20 1 -> -1", "bytes 7F 1 -> -1", "bytes 0 1 -> -1", "bytes F8 1 -> -1",
                "bytes FFFFFFFFFFFFFFFF 8 -> -1", "bytes 2041 2 -> -1", "bytes 4120 2 -> -1",
                "bytes 2042434445464748 8 -> -1", "bytes C142434445464748 8 -> -1",
                "bytes 41 0 -> -1", "bytes 41 -1 -> -1", "bytes 41 2 -> -1",
                "bytes 4141414141414141 9 -> -1", "text -> ABCDEFGHFGH!~");
    }

    private static void lengthLimit() {
        Script.run("promise 2, sixty",
                "type " + FIFTY_FIVE + " -> 55",
                "type abcdef -> -1", "type abcdefgh -> -1", "text -> " + FIFTY_FIVE,
                "type abcde -> 60", "type f -> -1", "character 59 -> 101", "character 60 -> -1",
                "wipe -> 60");
    }

    private static void place() {
        Script.run("promise 5",
                "add x -> 1", "place -> -1",
                "add . -> " + IAE, "place -> 0",
                "add +x -> " + IAE, "place -> 2", "text -> +x", "add y -> 3", "place -> 2",
                "add a -> " + IAE, "place -> 0", "wipe -> 1", "place -> 0",
                "members xy -> " + IAE, "place -> 1", "wipe -> 2",
                "cost -x= -> " + IAE, "place -> 2", "wipe -> 3",
                "best *x+=y -> " + IAE, "place -> 3", "wipe -> 5",
                "same x=*yzz -> " + IAE, "place -> 5", "wipe -> 6",
                "unite xy=z -> " + IAE, "place -> 1", "wipe -> 4",
                "rule -a=*aab -> " + IAE, "place -> 6", "wipe -> 7",
                "rounds 21 -> " + IAE, "price a 1 -> " + IAE, "place -> 6",
                "add " + "-".repeat(60) + " -> " + IAE, "place -> 60", "type x -> -1", "wipe -> 60");
    }

    private static void objectsApart() {
        Script one = new Script("promise 1, one object");
        Script other = new Script("promise 1, another object");
        one.lines("add +xy -> 3", "rule a=-a -> 1", "price x 9 -> done", "add +x -> " + IAE);
        other.lines("text -> ", "place -> -1", "nodes -> 0", "rule a=!a -> 1", "add x -> 1",
                "cost x -> 1");
        one.lines("text -> +x", "nodes -> 3", "rounds 1 -> 1", "nodes -> 6");
    }
}
