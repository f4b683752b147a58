import java.io.IOException;
import java.lang.reflect.Method;
import java.lang.reflect.Modifier;
import java.nio.file.Files;
import java.nio.file.Path;

/** README.md's example answers what is told beside it, and README.md names every call of the face. */
public final class ReadmeTest {
    private static final Check CHECK = new Check();

    public static void main(String[] args) throws IOException {
        String readme = Files.readString(Path.of("README.md"));
        example(readme);
        names(readme);
        CHECK.finish();
    }

    /** Each line is held against README.md, too, so that the two stay one example. */
    private static void example(String readme) {
        FairGround fair = new FairGround();
        int wheel = fair.ride(4, 3, 60, 6, 9);
        told(readme, "int wheel = fair.ride(4, 3, 60, 6, 9);", wheel, 0);
        int swing = fair.ride(2, 1, 50, 5, 3);
        told(readme, "int swing = fair.ride(2, 1, 50, 5, 3);", swing, 1);
        told(readme, "fair.lay(wheel, 4, 2, false);", fair.lay(wheel, 4, 2, false) ? 1 : 0, 1);
        told(readme, "fair.fits(swing, 9, 2, false);", fair.fits(swing, 9, 2, false), 0);
        told(readme, "fair.lay(swing, 10, 2, true);", fair.lay(swing, 10, 2, true) ? 1 : 0, 1);
        told(readme, "fair.look(wheel, 2);", fair.look(wheel, 2), 65);
        told(readme, "fair.lit(wheel);", fair.lit(wheel), 1);
        told(readme, "fair.change(wheel, 4, 4, 0);", fair.change(wheel, 4, 4, 0), 0);
        told(readme, "fair.end();", fair.end(), 0);
        CHECK.due("both have a right", fair.count(4), 2);
        told(readme, "fair.feed(0x6c61707365207768L, 0x656e206d69737365L, 0x643b000000000000L);",
                fair.feed(0x6c61707365207768L, 0x656e206d69737365L, 0x643b000000000000L), 18);
        told(readme, "fair.text();", fair.text(), 0);
        CHECK.yes("lay again", fair.lay(wheel, 4, 2, false));
        CHECK.due("the swing's right lapses", fair.end(), 1);
        CHECK.due("the swing's right", fair.look(swing, 3), FairGround.NONE);
        CHECK.due("the wheel's right", fair.look(wheel, 3), 2 * (12 * 2 + 4));
    }

    private static void told(String readme, String line, int got, int want) {
        CHECK.yes("in README.md: " + line, readme.contains(line));
        CHECK.due(line, got, want);
    }

    private static void names(String readme) {
        for (Method method : FairGround.class.getDeclaredMethods()) {
            if (Modifier.isPublic(method.getModifiers())) {
                CHECK.yes("README.md names " + method.getName(), readme.contains("`" + method.getName() + "`"));
            }
        }
    }
}
