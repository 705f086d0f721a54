/** Promises 1 to 5: a new object, type, wipe, character, place. */
public final class TextTest {
    private static final String FIFTY_FIVE = "-".repeat(54) + "x";

    public static void main(String[] args) {
        newObject();
        typeAndWipe();
        bytesTyped();
        lengthLimit();
        place();
        objectsApart();
        Script.end();
    }

    private static void newObject() {
        Script.run("promise 1",
                "text -> ", "wipe -> 0", "character 0 -> -1", "place -> -1",
                "nodes -> 0", "classes -> 0", "rounds 20 -> 0", "nodes -> 0",
                "members x -> -1", "cost 0 -> -1", "best +xy -> -1", "same x=x -> -1",
                "rule a=a -> 1");
    }

    private static void typeAndWipe() {
        Script.run("promises 2, 3, 4",
                "type +xy -> 3", "type * -> 4", "text -> +xy*",
                "character 0 -> 43", "character 1 -> 120", "character 3 -> 42",
                "character 4 -> -1", "character -1 -> -1", "character 60 -> -1",
                "character 2147483647 -> -1", "character -2147483648 -> -1",
                "wipe -> 4", "character 0 -> -1", "wipe -> 0",
                "type z -> 1", "text -> z", "wipe -> 1");
    }

    private static void bytesTyped() {
        EqualTerms terms = new EqualTerms();
        typed(terms, 0x4142434445464748L, 8, 8);
        typed(terms, 0x4142434445464748L, 3, 11);
        typed(terms, 0xFFFFFFFFFFFFFF21L, 1, 12);
        typed(terms, 0x000000000000007EL, 1, 13);
        Script.due("promise 2", "text", Script.text(terms), "ABCDEFGHFGH!~");
        typed(terms, 32, 1, -1);
        typed(terms, 127, 1, -1);
        typed(terms, 0, 1, -1);
        typed(terms, 0xF8, 1, -1);
        typed(terms, -1, 8, -1);
        typed(terms, 0x2041, 2, -1);
        typed(terms, 0x4120, 2, -1);
        typed(terms, 0x2042434445464748L, 8, -1);
        typed(terms, 0xC142434445464748L, 8, -1);
        typed(terms, 0x41, 0, -1);
        typed(terms, 0x41, -1, -1);
        typed(terms, 0x41, 2, -1);
        typed(terms, 0x4141414141414141L, 9, -1);
        typed(terms, 0x4141414141414141L, Integer.MAX_VALUE, -1);
        typed(terms, 0x4141414141414141L, Integer.MIN_VALUE, -1);
        Script.due("promise 2", "text", Script.text(terms), "ABCDEFGHFGH!~");
    }

    private static void typed(EqualTerms terms, long characters, int n, int want) {
        String call = "type(" + characters + ", " + n + ")";
        Script.due("promise 2", call, "" + terms.type(characters, n), "" + want);
    }

    private static void lengthLimit() {
        Script.run("promise 2, sixty",
                "type " + FIFTY_FIVE + " -> 55",
                "type abcdef -> -1", "type abcdefgh -> -1", "text -> " + FIFTY_FIVE,
                "type abcde -> 60", "type f -> -1", "character 59 -> 101", "character 60 -> -1",
                "wipe -> 60");
    }

    private static void place() {
        String iae = "throws.IllegalArgumentException";
        Script.run("promise 5",
                "add x -> 1", "place -> -1",
                "add . -> " + iae, "place -> 0",
                "add +x -> " + iae, "place -> 2", "text -> +x", "add y -> 3", "place -> 2",
                "add a -> " + iae, "place -> 0", "wipe -> 1", "place -> 0",
                "members xy -> " + iae, "place -> 1", "wipe -> 2",
                "cost -x= -> " + iae, "place -> 2", "wipe -> 3",
                "best *x+=y -> " + iae, "place -> 3", "wipe -> 5",
                "same x=*yzz -> " + iae, "place -> 5", "wipe -> 6",
                "unite xy=z -> " + iae, "place -> 1", "wipe -> 4",
                "rule -a=*aab -> " + iae, "place -> 6", "wipe -> 7",
                "rounds 21 -> " + iae, "price a 1 -> " + iae, "place -> 6",
                "add " + "-".repeat(60) + " -> " + iae, "place -> 60", "type x -> -1", "wipe -> 60");
    }

    private static void objectsApart() {
        EqualTerms one = new EqualTerms();
        EqualTerms other = new EqualTerms();
        Script.answer(one, "add +xy");
        Script.answer(one, "rule a=-a");
        Script.answer(one, "price x 9");
        Script.answer(one, "type z");
        Script.due("promise 1", "other text", Script.answer(other, "text"), "");
        Script.due("promise 1", "other nodes", Script.answer(other, "nodes"), "0");
        Script.due("promise 1", "other rule", Script.answer(other, "rule a=!a"), "1");
        Script.due("promise 1", "other add", Script.answer(other, "add x"), "1");
        Script.due("promise 1", "other cost", Script.answer(other, "cost x"), "1");
    }
}
