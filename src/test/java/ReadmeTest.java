import java.net.URL;
import java.net.URLClassLoader;
import java.nio.file.Files;
import java.nio.file.Path;
import java.util.ArrayList;
import java.util.List;
import java.util.regex.Matcher;
import java.util.regex.Pattern;

/**
 * What README.md shows is true: its first block is a method, each other one a run of calls, where behind a line with
 * an answer stands which one it is. They are compiled with the class and run; exit code 1 if an answer is another one.
 */
public final class ReadmeTest {
    private static final Pattern BLOCK = Pattern.compile("```java\n(.*?)```", Pattern.DOTALL);
    private static final Pattern ANSWER = Pattern.compile("\\w+ (\\w+) = .*; +// (-?\\w+)(:.*)?");
    private static final int LEAST_ANSWERS = 30;

    public static void main(String[] args) throws Exception {
        List<String> blocks = new ArrayList<>();
        Matcher matcher = BLOCK.matcher(Files.readString(Path.of("README.md")));
        while (matcher.find()) {
            blocks.add(matcher.group(1));
        }
        int answers = 0;
        StringBuilder text = new StringBuilder("public final class Shown {\npublic static int wrong;\n");
        text.append("static void due(String name, Object got, String want) {\n");
        text.append("if (!want.equals(String.valueOf(got))) { wrong++; ");
        text.append("System.out.println(\"readme: \" + name + \" is \" + got + \", told is \" + want); } }\n");
        for (int i = 0; i < blocks.size(); i++) {
            text.append(i == 0 ? "" : "public static void show" + i + "() {\n");
            for (String line : blocks.get(i).split("\n")) {
                text.append(line).append('\n');
                Matcher answer = ANSWER.matcher(line);
                if (i > 0 && answer.matches()) {
                    answers++;
                    text.append("due(\"" + answer.group(1) + "\", " + answer.group(1) + ", \"" + answer.group(2) + "\");\n");
                }
            }
            text.append(i == 0 ? "" : "}\n");
        }
        text.append("}\n");
        int wrong = run(text.toString(), blocks.size());
        boolean isEnough = blocks.size() > 1 && answers >= LEAST_ANSWERS;
        System.out.println(isEnough && wrong == 0 ? "readme: all " + answers + " answers are as told"
                : "readme: " + wrong + " of " + answers + " answers are not as told, or there are too few");
        if (!isEnough || wrong != 0) {
            System.exit(1);
        }
    }

    private static int run(String text, int blocks) throws Exception {
        Path room = Files.createTempDirectory("shown");
        Path source = room.resolve("Shown.java");
        Path compiled = room.resolve("Shown.class");
        try {
            Files.writeString(source, text);
            String path = System.getProperty("java.class.path");
            Process compiler = new ProcessBuilder("javac", "-cp", path, "-d", room.toString(), source.toString()).inheritIO().start();
            if (compiler.waitFor() != 0) {
                return 1;
            }
            try (URLClassLoader loader = new URLClassLoader(new URL[] {room.toUri().toURL()})) {
                Class<?> shown = loader.loadClass("Shown");
                for (int i = 1; i < blocks; i++) {
                    shown.getMethod("show" + i).invoke(null);
                }
                return shown.getField("wrong").getInt(null);
            }
        } finally {
            Files.deleteIfExists(compiled);
            Files.deleteIfExists(source);
            Files.deleteIfExists(room);
        }
    }
}
