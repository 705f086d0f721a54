/** The boundary cases of promises 1 to 5: a new object, type, wipe, character, place. */
public final class TextEdgesTest {
    private static final String IAE = "throws.IllegalArgumentException";
    private static final String ISE = "throws.IllegalStateException";
    private static final String SIGNS = "0123456789xyz-!+*^";
    private static final String[] READERS = {"rule", "add", "unite", "same", "members", "cost", "best"};
    private static final String SIXTY = "abcdefgh".repeat(7) + "ijkl";

    public static void main(String[] args) {
        newObjectHasNoText();
        newObjectHasNoNodes();
        newObjectHasNoRules();
        newObjectHasPricesOfOne();
        howManyAreTyped();
        whichCodesAreTyped();
        oneWrongCodeRefusesAll();
        higherBytesDoNotCount();
        atMostSixty();
        wipeOfNothingAndOfAll();
        wipeLeavesTheRest();
        characterInsideAndOutside();
        charactersThatAreGone();
        noPlaceBeforeAnyWrongText();
        placeOfAnEmptyText();
        placeOfTheFirstWrongCharacter();
        placeIsTheLengthOfAnUnfinishedText();
        placeInAFullText();
        placeOfTheLatestWrongText();
        Script.end();
    }

    private static void newObjectHasNoText() {
        Script.run("promise 1, no text", "character 0 -> -1", "text -> ", "wipe -> 0", "type x -> 1");
        for (String reader : READERS) {
            Script.run("promise 1, no text", reader + " . !> " + IAE, "text -> ", "wipe -> 0");
        }
    }

    private static void newObjectHasNoNodes() {
        Script.run("promise 1, no nodes", "nodes -> 0", "classes -> 0", "members x -> -1",
                "cost x -> -1", "best x -> -1", "same x=x -> -1", "nodes -> 0", "classes -> 0");
    }

    private static void newObjectHasNoRules() {
        Script.run("promise 1, no rules", "rounds 20 -> 0", "add *+x0-y -> 6", "rounds 20 -> 0",
                "nodes -> 6", "classes -> 6", "rule a=0 -> 1");
    }

    private static void newObjectHasPricesOfOne() {
        for (char sign : SIGNS.toCharArray()) {
            String term = sign + ("-!".indexOf(sign) >= 0 ? "x" : "+*^".indexOf(sign) >= 0 ? "xy" : "");
            Script.run("1 for each at first", "add " + term + " -> " + term.length(),
                    "cost " + term + " -> " + term.length());
        }
    }

    private static void howManyAreTyped() {
        String bytes = "4142434445464748";
        for (int n = 1; n <= 8; n++) {
            Script.run("promise 2, n of 1 to 8", "bytes " + bytes + " " + n + " -> " + n,
                    "text -> " + "ABCDEFGH".substring(8 - n),
                    "bytes " + bytes + " " + n + " -> " + 2 * n);
        }
        int[] wrong = {0, -1, 9, 10, 16, 60, 64, 257, -255, -8, Integer.MAX_VALUE, Integer.MIN_VALUE,
            Integer.MIN_VALUE + 1, 1 << 30};
        for (int n : wrong) {
            Script.run("promise 2, other n", "bytes " + bytes + " " + n + " !> -1", "text -> ",
                    "type xy -> 2", "bytes " + bytes + " " + n + " !> -1", "text -> xy", "type z -> 3",
                    "text -> xyz");
        }
    }

    private static void whichCodesAreTyped() {
        for (int code = 0; code < 256; code++) {
            String bytes = "bytes " + Integer.toHexString(code) + " 1";
            if (code >= 33 && code <= 126) {
                Script.run("promise 2, code " + code, bytes + " -> 1", "character 0 -> " + code);
            } else {
                Script.run("promise 2, code " + code, bytes + " !> -1", "type x -> 1",
                        bytes + " !> -1", "text -> x");
            }
        }
    }

    private static void oneWrongCodeRefusesAll() {
        for (int n = 1; n <= 8; n++) {
            for (int at = 0; at < n; at++) {
                for (String code : new String[] {"00", "20", "7F", "80", "A1", "FF"}) {
                    Script.run("promise 2, one is not 33 .. 126", "type ab -> 2",
                            "bytes " + with("41".repeat(n), at, code) + " " + n + " !> -1");
                }
                for (String code : new String[] {"21", "7E"}) {
                    Script.run("promise 2, the first and the last code", "type ab -> 2",
                            "bytes " + with("41".repeat(n), at, code) + " " + n + " -> " + (2 + n),
                            "character " + (2 + at) + " -> " + Integer.parseInt(code, 16));
                }
            }
        }
    }

    private static String with(String bytes, int at, String code) {
        return bytes.substring(0, 2 * at) + code + bytes.substring(2 * at + 2);
    }

    private static void higherBytesDoNotCount() {
        for (int n = 1; n < 8; n++) {
            for (String code : new String[] {"00", "20", "7F", "FF", "41"}) {
                Script.run("promise 2, the lowest n bytes",
                        "bytes " + code.repeat(8 - n) + "7A".repeat(n) + " " + n + " -> " + n,
                        "text -> " + "z".repeat(n));
            }
        }
    }

    private static void atMostSixty() {
        for (int n = 1; n <= 8; n++) {
            String piece = "ABCDEFGH".substring(0, n);
            Script.run("promise 2, sixty with " + n,
                    "type " + SIXTY.substring(n) + " -> " + (60 - n), "type " + piece + " -> 60",
                    "text -> " + SIXTY.substring(n) + piece, "type x !> -1");
            Script.run("promise 2, sixty-one with " + n,
                    "type " + SIXTY.substring(n - 1) + " -> " + (61 - n), "type " + piece + " !> -1");
        }
        for (int n = 2; n <= 8; n++) {
            String rest = SIXTY.substring(n - 1);
            Script.run("promise 2, room for one less than " + n, "type " + rest + " -> " + (61 - n),
                    "type " + "ABCDEFGH".substring(0, n) + " !> -1",
                    "type " + "ABCDEFGH".substring(1, n) + " -> 60",
                    "text -> " + rest + "ABCDEFGH".substring(1, n));
        }
        Script.run("promise 2, full", "type " + SIXTY + " -> 60", "type ABCDEFGH !> -1",
                "bytes 41 0 -> -1", "bytes 20 1 -> -1", "wipe -> 60", "type ABCDEFGH -> 8",
                "text -> ABCDEFGH");
    }

    private static void wipeOfNothingAndOfAll() {
        Script.run("promise 3", "wipe -> 0", "wipe -> 0", "type x -> 1", "wipe -> 1", "wipe -> 0",
                "text -> ", "type " + SIXTY + " -> 60", "wipe -> 60", "character 0 -> -1",
                "character 59 -> -1", "wipe -> 0", "type " + SIXTY + " -> 60", "wipe -> 60");
    }

    private static void wipeLeavesTheRest() {
        Script.run("promise 3, only what is typed is gone",
                "rule a=-a -> 1", "add x -> 1", "unite y=z -> 2", "price x 7 -> done",
                "add x= -> " + IAE, "wipe -> 2", "place -> 1", "nodes -> 3", "classes -> 2",
                "cost x -> 7", "rounds 20 -> 1", "nodes -> 5", "rule a=a -> 2");
    }

    private static void characterInsideAndOutside() {
        Script.run("promise 4, no text", "character 0 -> -1", "character -1 -> -1",
                "character 59 -> -1", "character 2147483647 -> -1", "character -2147483648 -> -1");
        Script.run("promise 4, one", "type ! -> 1", "character -1 -> -1", "character 0 -> 33",
                "character 1 -> -1");
        Script.run("promise 4, the codes' ends", "type ~!~ -> 3", "character 0 -> 126",
                "character 1 -> 33", "character 2 -> 126", "character 3 -> -1");
        Script.run("promise 4, sixty", "type " + SIXTY + " -> 60", "character 0 -> 97",
                "character 58 -> 107", "character 59 -> 108", "character 60 -> -1",
                "character 61 -> -1", "character -1 -> -1", "character 256 -> -1",
                "character 2147483647 -> -1", "character -2147483648 -> -1", "wipe -> 60");
    }

    private static void charactersThatAreGone() {
        Script.run("promise 4, a shorter text", "type +xyz -> 4", "wipe -> 4", "character 0 -> -1",
                "type -0 -> 2", "character 1 -> 48", "character 2 -> -1", "character 3 -> -1");
        Script.run("promise 4, a text that was read", "add +xy -> 3", "character 0 -> -1",
                "character 2 -> -1", "add z -> 4", "character 0 -> -1", "unite x=y -> 3",
                "best +xy -> 3", "text -> +xx", "best . -> 3", "wipe -> 3", "best y -> 1",
                "character 0 -> 120", "character 1 -> -1", "character 2 -> -1");
    }

    private static void noPlaceBeforeAnyWrongText() {
        Script.run("promise 5, NONE before any",
                "place -> -1", "bytes 20 1 -> -1", "bytes 41 9 -> -1", "character 9 -> -1",
                "place -> -1", "wipe -> 0", "rounds 21 -> " + IAE, "rounds -1 -> " + IAE,
                "price a 1 -> " + IAE, "price x 0 -> " + IAE, "place -> -1",
                "members x -> -1", "cost x -> -1", "best x -> -1", "same x=y -> -1", "place -> -1",
                "add x -> 1", "unite x=y -> 1", "same x=y -> 1", "members x -> 2", "cost x -> 1",
                "best x -> 1", "wipe -> 1", "rule a=-a -> 1", "rounds 2 -> 1", "place -> -1",
                "add " + "!".repeat(38) + "x -> " + ISE, "place -> -1", "wipe -> 39",
                "unite x=" + "!".repeat(38) + "x -> " + ISE, "place -> -1");
    }

    private static void placeOfAnEmptyText() {
        for (String reader : READERS) {
            Script.run("promise 5, the length of an empty text", reader + " . -> " + IAE, "place -> 0",
                    reader + " x) -> " + IAE, "place -> 1", "wipe -> 2", reader + " . -> " + IAE,
                    "place -> 0");
        }
    }

    private static void placeOfTheFirstWrongCharacter() {
        for (String call : new String[] {"add", "members", "cost", "best"}) {
            wrongAt(call, "~", 0);
            wrongAt(call, "=", 0);
            wrongAt(call, "a", 0);
            wrongAt(call, "~~~~", 0);
            wrongAt(call, "+x~", 2);
            wrongAt(call, "+a~", 1);
            wrongAt(call, "-=", 1);
            wrongAt(call, "xx", 1);
            wrongAt(call, "x~", 1);
            wrongAt(call, "x=x", 1);
            wrongAt(call, "+xy-", 3);
            wrongAt(call, "+-x!yzz", 5);
        }
        for (String call : new String[] {"unite", "same"}) {
            wrongAt(call, "=", 0);
            wrongAt(call, "=x", 0);
            wrongAt(call, "c=c", 0);
            wrongAt(call, "xy=y", 1);
            wrongAt(call, "+x=yz", 2);
            wrongAt(call, "x==", 2);
            wrongAt(call, "x=a", 2);
            wrongAt(call, "x=y=", 3);
            wrongAt(call, "x=yy", 3);
            wrongAt(call, "x=+y~", 4);
            wrongAt(call, "+xy*xy", 3);
        }
    }

    private static void placeIsTheLengthOfAnUnfinishedText() {
        for (String call : new String[] {"add", "members", "cost", "best"}) {
            for (String text : new String[] {"-", "+", "+x", "*-!", "^+xy", "+x+y+z"}) {
                wrongAt(call, text, text.length());
            }
        }
        for (String call : new String[] {"unite", "same", "rule"}) {
            for (String text : new String[] {"x", "-", "+x", "+xy", "x=", "x=-", "+xy=+x", "-x=*x-"}) {
                wrongAt(call, text, text.length());
            }
        }
    }

    private static void wrongAt(String call, String text, int place) {
        Script.run("promise 5, the place", call + " " + text + " !> " + IAE, "place -> " + place,
                "text -> " + text);
    }

    private static void placeInAFullText() {
        Script.run("promise 5, the length of a full text",
                "add " + "-".repeat(60) + " !> " + IAE, "place -> 60", "type x -> -1", "wipe -> 60",
                "add " + "-".repeat(59) + "= -> " + IAE, "place -> 59", "wipe -> 60",
                "add " + "-".repeat(58) + "xx -> " + IAE, "place -> 59", "wipe -> 60",
                "add " + "-".repeat(59) + "x -> " + ISE, "place -> 59");
        Script.run("promise 5, the length of a full text of two sides",
                "unite x=" + "-".repeat(58) + " !> " + IAE, "place -> 60", "wipe -> 60",
                "unite " + "-".repeat(58) + "x= -> " + IAE, "place -> 60", "wipe -> 60",
                "same " + "-".repeat(57) + "x=x -> -1", "place -> 60", "text -> ",
                "same x=" + "-".repeat(56) + "xx -> " + IAE, "place -> 59");
    }

    private static void placeOfTheLatestWrongText() {
        Script.run("promise 5, latest",
                "add +xy~ -> " + IAE, "place -> 3", "wipe -> 4", "place -> 3", "add +xy -> 3",
                "place -> 3", "members z -> -1", "place -> 3", "bytes 20 1 -> -1", "place -> 3",
                "rounds 99 -> " + IAE, "price c 1 -> " + IAE, "place -> 3",
                "same x -> " + IAE, "place -> 1", "same =y -> 0", "place -> 1",
                "best +xz+ -> " + IAE, "place -> 3", "rule . -> " + IAE, "place -> 3", "wipe -> 4",
                "rule b=a -> " + IAE, "place -> 2", "add . -> " + IAE, "place -> 0");
    }
}
