import java.io.IOException;
import java.nio.charset.StandardCharsets;
import java.nio.file.Files;
import java.nio.file.Path;
import java.util.HashSet;
import java.util.Iterator;
import java.util.List;
import java.util.Set;
import java.util.StringJoiner;
import java.util.regex.Matcher;
import java.util.regex.Pattern;

/** README.md must tell the face as the class has it, and its example must answer what it says. */
public final class ReadmeTest {
    private static final Checks CHECKS = new Checks();
    private static final Pattern EXCEPTION = Pattern.compile("`(\\w+Exception)`: ");
    private static final int CELLS = 4;

    public static void main(String[] args) throws IOException {
        List<String> page = Files.readAllLines(Path.of("README.md"), StandardCharsets.UTF_8);
        rowsAreTheFace(page);
        exampleAnswers(page);
        CHECKS.end("ReadmeTest");
    }

    private static void rowsAreTheFace(List<String> page) throws IOException {
        String source = Files.readString(Path.of("src/main/java/PhoneRater.java"), StandardCharsets.UTF_8)
                .replaceAll("\\s+", " ");
        Set<String> told = new HashSet<>();
        for (String line : page) {
            if (line.startsWith("| `")) {
                String declared = declarationOf(line);
                CHECKS.isTrue("README.md tells what the class has not: " + declared, source.contains(declared));
                told.add(declared);
            }
        }
        Matcher members = Pattern.compile("public [^={]*\\([^{]*\\{").matcher(source);
        while (members.find()) {
            CHECKS.isTrue("README.md does not tell: " + members.group(), told.remove(members.group()));
        }
        CHECKS.isTrue("README.md tells what is not public: " + told, told.isEmpty());
    }

    /** The row as the class declares it, so that names and the order of exceptions are compared too. */
    private static String declarationOf(String row) {
        String[] cells = row.substring(1).split("\\|");
        CHECKS.isTrue("README.md has a row without its four cells: " + row, cells.length == CELLS);
        StringJoiner thrown = new StringJoiner(", ", " throws ", "").setEmptyValue("");
        Matcher names = EXCEPTION.matcher(row);
        while (names.find()) {
            thrown.add(names.group(1));
        }
        boolean refusesNothing = row.endsWith("| nothing |");
        CHECKS.isTrue("README.md has a row that refuses and does not: " + row, refusesNothing == (thrown.length() == 0));
        return "public " + cells[0].trim().replace("`", "") + thrown + " {";
    }

    private static void exampleAnswers(List<String> page) {
        int begin = page.indexOf("```java");
        Iterator<String> example = page.subList(begin + 1, page.size()).iterator();
        PhoneRater rater = new PhoneRater();
        CHECKS.isTrue("the example makes a rater", example.next().equals("PhoneRater rater = new PhoneRater();"));
        says(example, "int tariff = rater.addTariff(50, 90, 30, 60, 60);", rater.addTariff(50, 90, 30, 60, 60));
        says(example, "rater.setZone(tariff, 1, 200, 500);", rater.setZone(0, 1, 200, 500));
        says(example, "int account = rater.addAccount(100, 300, 10);", rater.addAccount(100, 300, 10));
        says(example, "int line = rater.addLine(account, tariff);", rater.addLine(0, 0));
        says(example, "int home = rater.addCall(line, 600, 61, 0);", rater.addCall(0, 600, 61, 0));
        says(example, "int abroad = rater.addCall(line, 480, 1801, 1);", rater.addCall(0, 480, 1801, 1));
        says(example, "int first = rater.callAt(0);", rater.callAt(0));
        says(example, "int price = rater.told(home, 3);", rater.told(0, 3));
        says(example, "int sum = rater.sum(account);", rater.sum(0));
        says(example, "int total = rater.total(account);", rater.total(0));
        says(example, "int before = rater.correct(abroad, 0);", rater.correct(1, 0));
        says(example, "int rest = rater.total(account);", rater.total(0));
        CHECKS.isTrue("the example has no other line", example.next().equals("```"));
    }

    private static void says(Iterator<String> example, String code, int answer) {
        String line = example.next();
        Pattern want = Pattern.compile(Pattern.quote(code) + " +// " + answer + "(\\D.*)?");
        CHECKS.isTrue("the example should say " + code + " // " + answer + " but says " + line, want.matcher(line).matches());
    }
}
