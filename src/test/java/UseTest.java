import java.io.IOException;
import java.nio.file.Files;
import java.nio.file.Path;
import java.util.ArrayList;
import java.util.List;

/** The use that README.md shows answers what README.md says. */
public final class UseTest {
    private static final Check CHECK = new Check("UseTest");

    public static void main(String[] args) throws IOException {
        use();
        shownAsItIs();
        CHECK.finish();
    }

    private static void use() {
        // as README.md shows it
        BoxPool pool = new BoxPool();
        int own = pool.box(0, BoxPool.NONE, 50);
        int leased = pool.box(0, 1, 50);
        pool.lease(leased, 0, 90);
        pool.report(own, 0, BoxPool.IN, 2);
        pool.report(leased, 0, BoxPool.LAND, 3);
        int today = pool.pass(10);
        pool.report(own, 4, BoxPool.OUT, 2);
        int place = pool.place(own, 7);
        int payer = pool.payer(own, 9);
        pool.report(own, 8, BoxPool.IN, 2);
        int then = pool.payer(own, 9);
        int booking = pool.book(5, 0, 1);
        int cost = pool.bring(0);
        int brought = pool.brings(0, 0);
        int other = pool.book(2, 0, 1);
        int given = pool.serve();
        int had = pool.end(other);
        boolean dirty = pool.wash(own, 200);
        int dear = pool.damage(leased, 3, 5);
        int mended = pool.mend(leased);
        int left = pool.handIn(leased);
        int gone = pool.boxIs(leased, 2);
        // up to here
        long[] got = {own, leased, today, place, payer, then, booking, cost, brought, other, given, had, dirty ? 1 : 0, dear,
            mended, left, gone};
        long[] due = {0, 1, 10, BoxPool.ROAD, BoxPool.CUSTOMER, BoxPool.LINE, 0, 100, 0, 1, 1, 1, 1, 200, 200, 1, 1};
        for (int i = 0; i < due.length; i++) {
            CHECK.same("answer " + i, due[i], got[i]);
        }
        CHECK.thrown("wash of a GONE one", IllegalStateException.class, pool, p -> p.wash(leased, 300));
    }

    private static void shownAsItIs() throws IOException {
        List<String> own = between(Files.readAllLines(Path.of("src/test/java/UseTest.java")),
            "        // as README.md shows it", "        // up to here");
        List<String> shown = between(Files.readAllLines(Path.of("README.md")), "```java", "```");
        CHECK.same("README.md shows", String.join("\n", own), String.join("\n", shown));
    }

    /** The code of the lines between two, without its comments. */
    private static List<String> between(List<String> lines, String first, String last) {
        List<String> found = new ArrayList<>();
        boolean inside = false;
        for (String line : lines) {
            inside &= !line.equals(last);
            if (inside) {
                found.add(line.replaceAll("//.*", "").trim());
            }
            inside |= line.equals(first);
        }
        return found;
    }
}
