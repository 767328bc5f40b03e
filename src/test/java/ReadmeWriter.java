import java.io.IOException;
import java.lang.reflect.Method;
import java.lang.reflect.Modifier;
import java.nio.file.Files;
import java.nio.file.Path;
import java.util.ArrayList;
import java.util.List;

/**
 * Writes the program ReadmeRun of the calls that a page shows: each stands in it as the page shows it, and is compared
 * with what the page says behind it. The first argument is the page, the second one the directory for the program.
 */
public final class ReadmeWriter {
    private static final String BEGIN = "```java";
    private static final String END = "```";
    private static final String SAYS = "// ";
    private static final String THROWS = "throws ";

    private final List<String> program = new ArrayList<>();
    private final List<String> faults = new ArrayList<>();

    public static void main(String[] args) throws IOException {
        ReadmeWriter writer = new ReadmeWriter();
        List<String> page = Files.readAllLines(Path.of(args[0]));
        writer.write(page);
        writer.lookForAllCalls(page);
        for (String fault : writer.faults) {
            System.out.println(args[0] + ": " + fault);
        }
        if (!writer.faults.isEmpty()) {
            System.exit(1);
        }
        Files.write(Path.of(args[1], "ReadmeRun.java"), writer.program);
    }

    private void write(List<String> page) {
        program.add("public final class ReadmeRun {");
        program.add("    public static void main(String[] args) {");
        program.add("        Due due = new Due(\"ReadmeRun\");");
        boolean isInside = false;
        int blocks = 0;
        for (int i = 0; i < page.size(); i++) {
            String line = page.get(i);
            if (isInside && line.equals(END)) {
                program.add("        }");
                isInside = false;
            } else if (isInside) {
                writeLine(i + 1, line.strip());
            } else if (line.equals(BEGIN)) {
                program.add("        {");
                isInside = true;
                blocks++;
            }
        }
        program.add("        due.close();");
        program.add("    }");
        program.add("}");
        if (isInside || blocks == 0) {
            faults.add("no block of calls, or one without an end");
        }
    }

    private void writeLine(int number, String line) {
        if (line.equals("SwapWhile machine = new SwapWhile();")) {
            program.add("            " + line);
            return;
        }
        int says = line.indexOf(SAYS);
        int end = line.lastIndexOf(';', says);
        if (says < 0 || end < 0 || !line.substring(end + 1, says).isBlank()) {
            faults.add("line " + number + " is no call with what it answers: " + line);
            return;
        }
        String call = line.substring(0, end);
        String answer = line.substring(says + SAYS.length()).split(": ")[0].strip();
        String what = quoted("line " + number + ", " + call);
        if (answer.startsWith(THROWS)) {
            String name = answer.substring(THROWS.length());
            String place = name.equals("NoSuchElementException") ? "java.util." : "";
            program.add("            due.fails(" + what + ", " + place + name + ".class, () -> " + call + ");");
        } else {
            program.add("            due.same(" + what + ", " + quoted(answer) + ", Due.asWritten(" + call + "));");
        }
    }

    private static String quoted(String text) {
        return "\"" + text.replace("\\", "\\\\").replace("\"", "\\\"") + "\"";
    }

    /** A page that tells how to use the class shows each of its calls. */
    private void lookForAllCalls(List<String> page) {
        String text = String.join("\n", page);
        for (Method method : SwapWhile.class.getDeclaredMethods()) {
            if (Modifier.isPublic(method.getModifiers()) && !text.contains("machine." + method.getName() + "(")) {
                faults.add(method.getName() + " is not shown");
            }
        }
    }
}
