import java.io.IOException;
import java.nio.file.Files;
import java.nio.file.Path;
import java.util.List;

/** The example in README.md: the number behind "//" is what the call before it answers. */
public final class ReadmeTest {
    private static List<String> lines;
    private static int shown = 0;

    public static void main(String[] args) throws IOException {
        lines = Files.readAllLines(Path.of("README.md"));
        makeTheCalls();
        long answers = lines.stream().filter(line -> line.contains("; ") && line.contains("// "))
                .count();
        Due.same("answers in README.md", answers, shown);
        Due.finish();
    }

    private static void makeTheCalls() {
        GalleryRays x = new GalleryRays();
        shows("x.add(4, 9240, 1, 0);", x.add(4, 9240, 1, 0));
        Due.holds("README.md types the text", lines.contains(
                "for (char c : \"soak:18480+5,500;split:0+1,-40\".toCharArray()) {"));
        Due.type(x, "soak:18480+5,500;split:0+1,-40");
        shows("x.read();", x.read());
        shows("x.part(1, 3);", x.part(1, 3));
        shows("x.setLoss(20);", x.setLoss(20));
        shows("x.shoot(0, 9240, 100000);", x.shoot(0, 9240, 100000));
        shows("x.rays();", x.rays());
        shows("x.hit(0, 2);", x.hit(0, 2));
        shows("x.heard(0, 0);", x.heard(0, 0));
        shows("x.echo(1);", x.echo(1));
        shows("x.shoot(0, 0, 100000);", x.shoot(0, 0, 100000));
        shows("x.undo();", x.undo());
        shows("x.order(9240);", x.order(9240));
        shows("x.aim(0, 13860, 2);", x.aim(0, 13860, 2));
    }

    private static void shows(String call, long answer) {
        shown++;
        for (String line : lines) {
            if (line.startsWith(call + " ")) {
                String told = line.substring(call.length()).trim().split(":")[0];
                Due.holds(call + " answers " + answer + ", README.md says " + told,
                        told.equals("// " + answer));
                return;
            }
        }
        Due.holds("README.md has a line " + call, false);
    }
}
