import java.nio.file.Files;
import java.nio.file.Path;

/** The examples of README.md answer what they say, and it names every call and every test. */
public final class ReadmeTest extends Check {
    public static void main(String[] args) throws Exception {
        String text = Files.readString(Path.of("README.md"));
        examples(text);
        names(text);
        end();
    }

    private static void examples(String text) {
        about("README.md, the examples");
        CrowdOut ground = new CrowdOut();
        int pen = ground.area(0, 100);
        int stair = ground.area(1, 50);
        int goal = ground.area(3, 10);
        ground.link(pen, stair, 20, 2);
        ground.link(stair, goal, 30, 1);
        ground.folk(pen, 90, goal, 0);
        said(text, "ground.out(-1, 0);  // ", ground.out(-1, 0));
        said(text, "ground.ticks(9);    // ", ground.ticks(9));
        said(text, "ground.feed(7, 0x3030733a353e74L);  // ", ground.feed(7, 0x3030733a353e74L));
        said(text, "ground.order(1);                    // ", ground.order(1));
    }

    private static void said(String text, String call, int got) {
        int at = text.indexOf(call);
        due("'" + call + "' stands there", at < 0 ? 0 : 1, 1);
        if (at < 0) return;
        String told = text.substring(at + call.length()).split("[^0-9-]", 2)[0];
        due(call, got, Integer.parseInt(told));
    }

    private static void names(String text) throws Exception {
        about("README.md, the names");
        for (var method : CrowdOut.class.getMethods()) {
            if (method.getDeclaringClass() != CrowdOut.class) continue;
            due(method.getName(), text.contains("`" + method.getName() + "`") ? 1 : 0, 1);
        }
        try (var files = Files.list(Path.of("src/test/java"))) {
            for (Path file : files.toList()) {
                String name = file.getFileName().toString().replace(".java", "");
                if (name.endsWith("Test")) due(name, text.contains("`" + name + "`") ? 1 : 0, 1);
            }
        }
    }
}
