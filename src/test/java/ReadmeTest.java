import java.nio.file.Files;
import java.nio.file.Path;

/** The calls that README.md shows, with the answers that it tells. */
public final class ReadmeTest {
    private static String readme;
    private static int shown;

    public static void main(String[] args) throws Exception {
        readme = Files.readString(Path.of("README.md"));
        firstCalls();
        saved(orders());
        Due.due("calls with an answer that README.md shows", readme.split("\\); +// ", -1).length - 1, shown);
        Due.end("ReadmeTest");
    }

    /** The page has this call with this answer behind it, and so does the class. */
    private static void tells(String call, int got, int want) {
        shown++;
        Due.due(call, got, want);
        boolean onPage = false;
        for (String line : readme.split("\n")) {
            onPage |= line.matches(".*\\Q" + call + ";\\E +// " + want + ":.*") || line.matches(".*\\Q" + call + ";\\E +// " + want);
        }
        Due.due("README.md shows " + call + " with " + want, onPage ? 1 : 0, 1);
    }

    private static void firstCalls() {
        VisaPages house = new VisaPages();
        tells("house.own(3, 0)", house.own(3, 0), 0);
        int stamp = house.stamp(0, 1, 3, 7);
        tells("house.stamp(0, 1, 3, 7)", stamp, 0);
        int passed = house.pass(stamp, 2, VisaPages.READ);
        tells("house.pass(stamp, 2, VisaPages.READ)", passed, 1);
        tells("house.door(2, 5, passed)", house.door(2, 5, passed), 0);
        tells("house.come(2, 5, VisaPages.READ)", house.come(2, 5, VisaPages.READ), 0);
        tells("house.count(6)", house.count(6), 2);
        tells("house.come(2, 5, VisaPages.READ)", house.come(2, 5, VisaPages.READ), 0);
        tells("house.count(6)", house.count(6), 3);
        tells("house.hides(stamp)", house.hides(stamp), 6);
        tells("house.takeBack(stamp)", house.takeBack(stamp), 1);
        tells("house.come(2, 5, VisaPages.READ)", house.come(2, 5, VisaPages.READ), 4);
        tells("house.undo()", house.undo(), 5);
        tells("house.undo()", house.undo(), 4);
        tells("house.walk(2, 5, VisaPages.READ, 0)", house.walk(2, 5, VisaPages.READ, 0), 0);
    }

    private static VisaPages orders() {
        VisaPages house = new VisaPages();
        String text = "o3=0;s0>1:3*7;p0>2*1;d2.5=1;?2.5r";
        Due.due("README.md shows this text", readme.contains("\"" + text + "\"") ? 1 : 0, 1);
        for (int at = 0; at < text.length(); at += 8) {
            long characters = 0;
            for (int i = at; i < Math.min(at + 8, text.length()); i++) {
                characters = characters << 8 | text.charAt(i);
            }
            house.put(characters);
        }
        tells("house.fault()", house.fault(), -6);
        tells("house.carryOut()", house.carryOut(), 5);
        tells("house.count(14)", house.count(14), 1);
        return house;
    }

    private static void saved(VisaPages house) {
        tells("house.save(0)", house.save(0), 2);
        tells("house.own(3, 4)", house.own(3, 4), 1);
        tells("house.ofPage(3, 1)", house.ofPage(3, 1), 16);
        tells("house.restore(0)", house.restore(0), 2);
        tells("house.ofPage(3, 1)", house.ofPage(3, 1), 7);
    }
}
