import com.sun.management.ThreadMXBean;
import java.io.IOException;
import java.lang.management.ManagementFactory;
import java.nio.file.Files;
import java.nio.file.Path;
import java.util.regex.Matcher;
import java.util.regex.Pattern;

/** What a run of 512 calls makes stays far below the room, and the source keeps away from what is left out. */
public final class RoomTest {
    private static final long FEW_BYTES = 20_000;
    private static final String[] LEFT_OUT = {
        "->", "::", "\\btry\\b", "\\bcatch\\b", "\\bfinally\\b", "\\bsynchronized\\b", "\\bassert\\b", "Exact\\(",
        "\\bstatic\\s*\\{", "\\bvar\\b", "System\\.(?!arraycopy)", "\\bdouble\\b", "\\bfloat\\b", "^package\\b",
    };

    private RoomTest() {
    }

    public static void main(String[] args) throws IOException {
        dearCallsMakeNothing();
        tellingMakesLittle();
        source();
        Checks.finish("RoomTest");
    }

    private static long bytes() {
        ThreadMXBean bean = (ThreadMXBean) ManagementFactory.getThreadMXBean();
        return bean.getThreadAllocatedBytes(Thread.currentThread().getId());
    }

    /** PLACES grow one behind the other from THRESHOLD to THRESHOLD, so that there are many ROUNDS. */
    private static WholeSpans longProgram() {
        WholeSpans x = new WholeSpans();
        x.begin(7, 1, 1);
        for (int place = 0; place < 6; place++) {
            x.op(2, place, place, 7);
            x.op(16, 6, place, 0);
            x.op(1, 6, place, 0);
        }
        x.op(18, 0, 0, 0);
        for (int i = 19; i < 40; i++) {
            x.op(10, 0, -1000 * i, 1000 * i);
        }
        return x;
    }

    private static void dearCallsMakeNothing() {
        WholeSpans x = longProgram();
        x.run();
        x.holds(5000, 1);
        long before = bytes();
        for (int i = 0; i < 150; i++) {
            x.run();
            x.ways(i % 40);
            x.holds(5000, 1 + i);
        }
        long made = bytes() - before;
        Checks.due("bytes made by run, ways and holds (" + made + ") are few", made < FEW_BYTES ? 1 : 0, 1);
        System.out.println("rounds of the long program: " + x.told(0));
    }

    private static void tellingMakesLittle() {
        long before = bytes();
        for (int i = 0; i < 12; i++) {
            longProgram().clear();
        }
        long made = bytes() - before;
        Checks.due("bytes made by 500 calls of op (" + made + ") are few", made < 50 * FEW_BYTES ? 1 : 0, 1);
    }

    private static void source() throws IOException {
        String text = Files.readString(Path.of("src/main/java/WholeSpans.java"));
        String code = text.replaceAll("(?s)/\\*.*?\\*/", "").replaceAll("//[^\n]*", "");
        for (String left : LEFT_OUT) {
            Checks.due("found " + left, Pattern.compile(left, Pattern.MULTILINE).matcher(code).find() ? 1 : 0, 0);
        }
        Matcher imports = Pattern.compile("^import (.*);", Pattern.MULTILINE).matcher(code);
        while (imports.find()) {
            Checks.dueText("import", imports.group(1), "java.util.ArrayList");
        }
    }
}
