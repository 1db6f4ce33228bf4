import java.io.IOException;
import java.nio.file.Files;
import java.nio.file.Path;
import java.util.ArrayList;
import java.util.List;
import java.util.regex.Matcher;
import java.util.regex.Pattern;

/** README.md: the lines of its blocks of code, and the words that stand in it as code. */
final class Readme {
    static final Path PAGE = Path.of("README.md");

    /** A line of a block of code. */
    static final class Line {
        final String heading;
        final String language;
        final int number;
        final String text;

        Line(String heading, String language, int number, String text) {
            this.heading = heading;
            this.language = language;
            this.number = number;
            this.text = text;
        }
    }

    final List<Line> lines = new ArrayList<>();
    final List<String> codeWords = new ArrayList<>();
    private String heading = "";
    private String language = "";

    Readme() throws IOException {
        int number = 0;
        for (String text : Files.readAllLines(PAGE)) {
            number++;
            read(number, text);
        }
    }

    private void read(int number, String text) {
        if (text.startsWith("```")) {
            language = language.isEmpty() ? text.substring(3).trim() + "." : "";
        } else if (!language.isEmpty()) {
            lines.add(new Line(heading, language.substring(0, language.length() - 1), number, text));
        } else if (text.startsWith("#")) {
            heading = text.replaceFirst("^#+ ", "");
        } else {
            addCodeWords(text);
        }
    }

    private void addCodeWords(String text) {
        Matcher word = Pattern.compile("`([^`]+)`").matcher(text);
        while (word.find()) {
            codeWords.add(word.group(1));
        }
    }

    List<Line> linesOf(String someLanguage) {
        List<Line> found = new ArrayList<>();
        for (Line line : lines) {
            if (line.language.equals(someLanguage)) {
                found.add(line);
            }
        }
        return found;
    }
}
