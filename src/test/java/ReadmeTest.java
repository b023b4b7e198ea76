import java.io.IOException;
import java.nio.file.Files;
import java.nio.file.Path;
import java.util.List;

/** The tour of README.md, with the answers that it tells. */
public final class ReadmeTest {
    private static final Path README = Path.of("README.md");
    private static final Path SELF = Path.of("src/test/java/ReadmeTest.java");

    public static void main(String[] args) throws IOException {
        tour();
        standsHere();
        Check.end("ReadmeTest");
    }

    private static void tour() {
        PictureHouse house = new PictureHouse();

        int p = house.blank(16, 8, 50, 60, 70);
        house.noise(p, 0, 5L, 40);
        int q = house.shift(p, 2, 0);
        int unlike = house.distance(p, q, 2);
        Check.due("2: the first picture", p, 0);
        Check.due("5: the second picture", q, 1);
        Check.due("33: unlike samples", unlike, 118);

        house.reel(p);
        house.reel(q);
        int was = house.set(4, 2);
        int f = house.make(0);
        int v = house.look(f, 1, 0, 3, 5);
        Check.due("14: the STEP that was", was, 4);
        Check.due("17: the film", f, 0);
        Check.due("23: a sample", v, 32);

        int length = house.bytes(f);
        house.alter(house.coded(f, 1, 4) + 5, 0);
        int broken = house.read();
        int rule = house.coded(broken, 1, 6);
        int spot = house.coded(broken, 1, 7);
        boolean mended = house.mended(broken, 1, 0, 3, 5);
        Check.due("19: its bytes", length, 449);
        Check.due("18: the broken film", broken, 1);
        Check.due("21: the RULE", rule, 2);
        Check.due("21: the SPOT", spot, 0);
        Check.due("24: a mended sample", mended, true);

        house.row(f, 0, 1);
        house.row(f, 1, 1);
        int cut = house.cut();
        boolean first = house.kept(cut, 0);
        boolean last = house.kept(cut, 2);
        Check.due("28: the cut", cut, 2);
        Check.due("29: a whole group", first, true);
        Check.due("29: a part of one", last, false);

        house.feed(0x732D353532L, 5);
        int filter = house.filter();
        int dark = house.apply(filter, p, 0);
        Check.due("31: the filter", filter, 0);
        Check.due("32: the picture", dark, 2);
        Check.due("32: a sample of it", house.sample(dark, 1, 0, 0), 195);

        house.play(0, f, 150, 0);
        int early = house.tick(0);
        int later = house.tick(0);
        int next = house.tick(0);
        Check.due("38: the first tick", early, -1);
        Check.due("38: the second tick", later, 0);
        Check.due("38: the third tick", next, 1);
    }

    /** Each line of code that README.md shows stands in this test. */
    private static void standsHere() throws IOException {
        List<String> self = Files.readAllLines(SELF);
        boolean code = false;
        int shown = 0;
        for (String line : Files.readAllLines(README)) {
            if (line.startsWith("```")) {
                code = line.equals("```java");
                continue;
            }
            String statement = line.split("//")[0].strip();
            if (code && !statement.isEmpty()) {
                shown++;
                boolean here = self.stream().anyMatch(own -> own.strip().equals(statement));
                Check.due("README.md: " + statement, here, true);
            }
        }
        Check.due("README.md shows code", shown > 20, true);
    }
}
