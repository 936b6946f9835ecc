import java.io.IOException;
import java.nio.file.Files;
import java.nio.file.Path;

/** The example of README.md: it stands there as it stands here, and makes what is said there. */
public final class ReadmeTest {
    private static final String BEGIN = "    // The example begins.\n";
    private static final String END = "    // The example ends.\n";

    public static void main(String[] args) throws IOException {
        String own = Files.readString(Path.of("src/test/java/ReadmeTest.java"));
        String readme = Files.readString(Path.of("README.md"));
        int begin = own.lastIndexOf(BEGIN) + BEGIN.length();
        String example = own.substring(begin, own.indexOf(END, begin)).replaceAll("(?m)^    ", "");
        Checks.due("README.md has the example", true, readme.contains("```java\n" + example + "```\n"));
        Checks.due("README.md has what it makes", true, readme.contains("```text\n" + bibliography() + "```\n"));
        Checks.end();
    }

    // The example begins.
    /** Up to eight characters as one number, the first in its lowest byte. */
    static long packed(String text) {
        long number = 0;
        for (int i = text.length() - 1; i >= 0; i--) {
            number = number << 8 | text.charAt(i);
        }
        return number;
    }

    static String bibliography() {
        CiteForge x = new CiteForge();
        String database = "@string{ap = \"Ajax Press\"}\n"
            + "@book{bee, author = {Bee, Ann C.}, title = {The Key}, crossref = {all}}\n"
            + "@book{dam, author = {Bob van Dam and Eve Fox}, title = {A Hand}, crossref = {all}}\n"
            + "@book{all, press = ap # { 1999}}\n";
        for (int i = 0; i < database.length(); i += 8) {
            String part = database.substring(i, Math.min(i + 8, database.length()));
            x.write(packed(part), part.length());
        }
        x.read();                           // answers 3, the entries
        x.cite(packed("dam"));
        x.cite(packed("bee"));
        x.list(3);                          // answers 2; list(2) would add "all", to which both refer

        x.define(0, 2, packed("author"));   // function 0: gives the field author,
        x.define(0, 0, 1);                  //   and the number 1,
        x.define(0, 24, 2);                 //   makes form 2 of the first name: its LAST,
        x.define(0, 20, 0);                 //   takes that as the sort key
        x.run(0, 1);                        // for each entry of the list
        x.sort();                           // answers true: "Bee" comes before "Dam"

        x.define(1, 2, packed("author"));   // function 1: the first name,
        x.define(1, 0, 1);
        x.define(1, 24, 1);                 //   as form 1 has it,
        x.define(1, 21, 0);                 //   is put out,
        for (String field : new String[] {"title", "press"}) {
            x.define(1, 1, packed(": "));   //   then ": " and the field, twice
            x.define(1, 2, packed(field));
            x.define(1, 8, 0);
            x.define(1, 21, 0);
        }
        x.define(1, 22, 0);                 //   and the line ends
        x.run(1, 1);

        StringBuilder lines = new StringBuilder();
        for (int k = 0; k < x.count(2); k++) {
            try {
                for (int i = 0; ; i++) {
                    lines.append((char) x.line(k, i));
                }
            } catch (IndexOutOfBoundsException e) {
                lines.append('\n');         // behind the last character of line k
            }
        }
        return lines.toString();
    }
    // The example ends.
}
