import java.io.IOException;
import java.nio.charset.StandardCharsets;
import java.nio.file.Files;
import java.nio.file.Path;
import java.util.regex.Matcher;
import java.util.regex.Pattern;

/** What ../shared/LANGUAGE.md leaves out can be seen in the source, where plain patterns tell it. */
final class SourceTest {
    private SourceTest() {
    }

    private static String source() throws IOException {
        String whole = Files.readString(Path.of(AllTests.source), StandardCharsets.ISO_8859_1);
        return whole.replaceAll("(?s)/\\*.*?\\*/", "").replaceAll("//[^\n]*", "");
    }

    private static void without(String pattern) throws IOException {
        Matcher matcher = Pattern.compile(pattern).matcher(source());
        if (matcher.find()) {
            throw new Check.Wrong("the source has '" + matcher.group() + "'");
        }
    }

    static void rule01_noPackage() throws IOException {
        without("(?m)^\\s*(package|import)\\b");
    }

    static void rule02_noLambdas() throws IOException {
        without("->|::");
    }

    static void rule03_noOtherTypes() throws IOException {
        without("\\b(Object|Integer|Long|Boolean|Character|var|record|enum|interface)\\b");
        without("\\bstatic final (?!int\\[\\] |int |long |class )");
    }

    static void rule04_noOtherLibrary() throws IOException {
        without("\\bMath\\.(?!(abs|max|min)\\()\\w+");
        without("\\bSystem\\.(?!arraycopy\\()\\w+");
        without("\\b(?!Math|System)[A-Z]\\w*\\.\\w+");
    }

    static void rule05_noOtherStaticState() throws IOException {
        without("static\\s*\\{");
        without("static (?!final )[\\w\\[\\]]+ \\w+\\s*[=;]");
        without("\\b[A-Z_]+\\[[^\\]]*\\]\\s*[-+*/]?=(?!=)");
    }

    static void rule06_noCatchAtAll() throws IOException {
        without("\\b(try|catch|finally|synchronized|assert|instanceof)\\b");
        without("\"\\s*\\+|\\+\\s*\"");
        without("\\bthrow (?!new (IndexOutOfBounds|IllegalArgument|IllegalState)Exception\\(\"[^\"]*\"\\);)");
    }

    static void rule09_eachLoopIsCounted() throws IOException {
        without("\\b(while|do)\\b");
        without("\\bfor \\((?!int \\w+ = [^;]+; [^;]+; [^;]+\\) \\{)");
    }

    static void rule11_atMostSevenParameters() throws IOException {
        without("\\b(?!for|if|switch)\\w+\\((\\w+(\\[\\])? \\w+, ){7}");
    }

    static void rule11_shortMethodsAndFewClasses() throws IOException {
        int start = 0;
        int number = 0;
        int classes = 0;
        for (String line : source().split("\n", -1)) {
            number++;
            classes += line.matches(".*\\bclass \\w+.*") ? 1 : 0;
            if (line.matches("    (    )?(?! )[^=;]*\\)? ?(throws .*)?\\{") && !line.contains(" class ")) {
                start = number;
            }
            if (line.matches("    (    )?}") && start > 0) {
                if (number - start > 60) {
                    throw new Check.Wrong("the method at line " + start + " is long");
                }
                start = 0;
            }
        }
        if (classes > 12) {
            throw new Check.Wrong("there are " + classes + " classes");
        }
    }
}
