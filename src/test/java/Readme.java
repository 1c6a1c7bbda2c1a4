import java.io.IOException;
import java.nio.file.Files;
import java.nio.file.Path;
import java.util.Set;
import java.util.TreeSet;
import java.util.regex.Matcher;
import java.util.regex.Pattern;

/** What README.md shows can be done so, with the answers that it tells, and names every method of the face. */
public final class Readme {
    private static final int NONE = FilmLooksBack.NONE;

    public static void main(String[] args) throws IOException {
        anEvening();
        aLaw();
        theText();
        names(Files.readString(Path.of("README.md")));
        Due.end();
    }

    private static void anEvening() {
        FilmLooksBack house = Due.test(13, "README: an evening, taken back");
        Due.is("person", house.person(5, 3), 0);
        Due.is("scene", house.scene(2, 1, 0), true);
        Due.is("evening", house.evening(1), 1);
        Due.is("book", house.book(0, 1), 18);
        Due.is("changed", house.changed(), 4);
        // By cue 0 SCENE 2 leads back now, by a cough it still leads on: no way is longer.
        Due.is("shortest", house.shortest(0, 12, NONE), 12);
        Due.is("undo", house.undo(), 0);
    }

    private static void aLaw() {
        FilmLooksBack house = Due.test(7, "README: a text from its bytes");
        Due.is("end(0)", house.end(0), 0);
        Due.is("feed", house.feed(0x63756573, 0x20647261, 0x773b0000, 0, 0), 20);
        Due.is("end(10)", house.end(10), 10);
        Due.is("text", house.text(), 0);
        Due.is("by", house.by(0), true);
        Due.is("played", house.played(0), NONE);
    }

    private static void theText() {
        FilmLooksBack house = Due.test(7, "README: the text with two laws and two orders");
        String text = "cues if shown % 2 = 0 and kinds scene # 3 then draw % 4 else 0 end;\n"
                + "gladdens plain / seen + who;\nperson 2 row 6; evening 3;\n";
        Due.is("text", Tape.read(house, text), 0);
        Due.is("fault", house.fault(0), 0);
        Due.is("by", house.by(0), true);
        Due.is("played", house.played(0), NONE);
        Due.is("PERSONS", house.about(0), 1);
        Due.is("DAY", house.is(0), 3);
        Due.is("GLAD: 2 by each evening", house.of(0, 2), 6);
    }

    private static void names(String page) {
        Set<String> missing = new TreeSet<>();
        for (java.lang.reflect.Method method : FilmLooksBack.class.getDeclaredMethods()) {
            Matcher shown = Pattern.compile("`" + method.getName() + "`").matcher(page);
            if (java.lang.reflect.Modifier.isPublic(method.getModifiers()) && !shown.find()) {
                missing.add(method.getName());
            }
        }
        Due.is("methods that README.md does not name: " + missing, missing.size(), 0);
    }
}
