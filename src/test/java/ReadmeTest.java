/** The example of README.md, call by call. */
public final class ReadmeTest {
    public static void main(String[] args) {
        EqualTerms terms = new EqualTerms();
        due("type ++xy0", terms.type(0x2B2B787930L, 5), 5);
        due("add", terms.add(), 5);
        due("type +a0=a", terms.type(0x2B61303D61L, 5), 5);
        due("rule", terms.rule(), 1);
        due("rounds", terms.rounds(20), 1);
        due("type ++xy0", terms.type(0x2B2B787930L, 5), 5);
        due("best", terms.best(), 3);
        due("character 0", terms.character(0), '+');
        due("character 1", terms.character(1), 'x');
        due("character 2", terms.character(2), 'y');
        Script.end();
    }

    private static void due(String call, int got, int want) {
        Script.due("README.md", call, "" + got, "" + want);
    }
}
