import java.io.IOException;
import java.nio.file.Files;
import java.nio.file.Path;
import java.util.ArrayList;
import java.util.List;
import java.util.regex.Matcher;
import java.util.regex.Pattern;

/** README.md, as far as it can be tested. */
final class Readme {
    private Readme() {
    }

    /** The text below this heading, up to the next one. */
    static String section(String heading) throws IOException {
        Matcher matcher = Pattern.compile("(?ms)^## " + Pattern.quote(heading) + "\n(.*?)(?=^## |\\z)")
                .matcher(Files.readString(Path.of("README.md")));
        return matcher.find() ? matcher.group(1) : "";
    }

    /** The blocks of code in this language below this heading. */
    static List<String> blocks(String heading, String language) throws IOException {
        List<String> found = new ArrayList<>();
        Matcher matcher = Pattern.compile("(?ms)^```" + language + "\n(.*?)^```$").matcher(section(heading));
        while (matcher.find()) {
            found.add(matcher.group(1));
        }
        return found;
    }
}
