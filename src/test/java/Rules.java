import java.io.IOException;
import java.lang.reflect.Constructor;
import java.lang.reflect.Field;
import java.lang.reflect.Method;
import java.lang.reflect.Modifier;
import java.nio.file.Files;
import java.nio.file.Path;
import java.util.ArrayList;
import java.util.Arrays;
import java.util.List;
import java.util.Set;
import java.util.TreeSet;
import java.util.regex.Matcher;
import java.util.regex.Pattern;

/** The face is the document's, and the file keeps to what of LANGUAGE.md can be seen from here. */
public final class Rules {
    private static final String FACE = "public FilmLooksBack() "
            + "public boolean scene(int, int, int) public boolean kind(int, int) public int person(int, int) "
            + "public int feed(int, int, int, int, int) public int end(int) public int text() public int fault(int) "
            + "public boolean by(int) public boolean seat(int, int) public boolean call(int, int) "
            + "public boolean mend(int) public int evening(int) public int played(int) public int years(int, int) "
            + "public int undo() public int of(int, int) public int ofScene(int, int) public int is(int) "
            + "public int book(int, int) public int foretold(int, int) public int cue(int) public int run(int, int) "
            + "public int shortest(int, int, int) public int soonest(int, boolean) public int best(int, boolean) "
            + "public long odds(int, int, boolean) public boolean weigh(int, int, int, int) public int kinds(int) "
            + "public int parts(int, int) public int round(int) public int dead() public int far() "
            + "public int look(int) public int sure() public int tells() public long ways(int, int) "
            + "public boolean likes(int, int, int) public int roster(int, int) public int felt(int, int) "
            + "public int whose() public int gladdest() public int often() public int changed() public int front() "
            + "public int ledger(boolean) public int image() public int back() public int about(int) ";
    /** What LANGUAGE.md leaves out; each as it would stand in code. */
    private static final String[] BARRED = {
        "\\bthrow\\b", "\\bthrows\\b", "\\btry\\b", "\\bcatch\\b", "\\bsynchronized\\b", "\\bassert\\b", "->", "::",
        "\\bimport\\b", "\\bpackage\\b", "\\bnew\\s+\\w+\\([^()]*\\)\\s*\\{", "\\bObject\\b", "\\bMap\\b", "\\bSet\\b",
        "Exact\\b", "\\bhashCode\\b", "\\bequals\\b", "\\btoString\\b", "\\bRandom\\b", "\\bThread\\b",
        "System\\.(?!arraycopy\\b)", "\\bnative\\b", "\\bvolatile\\b", "\\btransient\\b", "\\bString\\.format\\b",
        "\\bstatic\\s*\\{", "\\bvar\\b", "while\\s*\\(true\\)", "for\\s*\\(;;\\)", "\\bObjects\\b", "\\bArrays\\b",
        "\"\\s*\\+", "\\+\\s*\"", "@\\w+"};
    private static int wrong = 0;

    public static void main(String[] args) throws IOException {
        checkFace();
        for (Class<?> inside : FilmLooksBack.class.getDeclaredClasses()) {
            checkInside(inside);
        }
        checkText(Files.readString(Path.of(args.length > 0 ? args[0] : "src/main/java/FilmLooksBack.java")));
        System.out.println(wrong == 0 ? "the rules are kept" : wrong + " rules are not kept");
        if (wrong != 0) {
            System.exit(1);
        }
    }

    private static void must(boolean kept, String what) {
        if (!kept) {
            wrong++;
            System.out.println(what);
        }
    }

    private static String told(String head, Class<?>[] types) {
        StringBuilder b = new StringBuilder(head).append('(');
        for (int i = 0; i < types.length; i++) {
            b.append(i == 0 ? "" : ", ").append(types[i].getSimpleName());
        }
        return b.append(')').toString();
    }

    private static void checkFace() {
        Class<?> face = FilmLooksBack.class;
        must(Modifier.isFinal(face.getModifiers()) && Modifier.isPublic(face.getModifiers()), "public and final");
        Set<String> due = new TreeSet<>();
        Matcher m = Pattern.compile("public [^)]*\\)").matcher(FACE);
        while (m.find()) {
            due.add(m.group());
        }
        Set<String> open = new TreeSet<>();
        Set<String> names = new TreeSet<>();
        List<Method> hidden = new ArrayList<>();
        for (Constructor<?> c : face.getDeclaredConstructors()) {
            open.add(told(Modifier.toString(c.getModifiers()) + " FilmLooksBack", c.getParameterTypes()));
        }
        for (Method method : face.getDeclaredMethods()) {
            if (Modifier.isPrivate(method.getModifiers())) {
                hidden.add(method);
            } else {
                names.add(method.getName());
                open.add(told(Modifier.toString(method.getModifiers()) + " " + method.getReturnType().getSimpleName()
                        + " " + method.getName(), method.getParameterTypes()));
            }
        }
        must(open.equals(due), "rule 1: the face is " + open);
        must(due.size() == 49, "the face of the document has 49");
        for (Method method : hidden) {
            must(!names.contains(method.getName()), "rule 1: private " + method.getName());
        }
        for (Class<?> inside : face.getDeclaredClasses()) {
            for (Method method : inside.getDeclaredMethods()) {
                must(!names.contains(method.getName()), "rule 1: " + inside + " " + method.getName());
            }
        }
        for (Field f : face.getDeclaredFields()) {
            boolean isNone = f.getName().equals("NONE") && Modifier.isPublic(f.getModifiers());
            must(isNone || Modifier.isPrivate(f.getModifiers()), "rule 1: " + f);
            must(!Modifier.isStatic(f.getModifiers()) || Modifier.isFinal(f.getModifiers()), "rule 5: " + f);
        }
        must(FilmLooksBack.NONE == -1, "NONE");
        must(face.getDeclaredClasses().length <= 11, "rule 11: some twelve classes");
    }

    private static void checkInside(Class<?> inside) {
        must(Modifier.isStatic(inside.getModifiers()), "rule 2: static " + inside);
        must(!Modifier.isPublic(inside.getModifiers()) && !Modifier.isProtected(inside.getModifiers()),
                "rule 1: " + inside);
        int fields = 0;
        for (Field f : inside.getDeclaredFields()) {
            fields += Modifier.isStatic(f.getModifiers()) ? 0 : 1;
            must(!Modifier.isStatic(f.getModifiers()) || Modifier.isFinal(f.getModifiers()), "rule 5: " + f);
        }
        must(fields <= 20, "rule 11: fields of " + inside);
        for (Method method : inside.getDeclaredMethods()) {
            must(method.getParameterCount() <= 7, "rule 11: " + method);
        }
    }

    private static void checkText(String text) {
        must(text.chars().allMatch(c -> c < 128), "rule 4: signs are 1 to 127");
        String code = text.replaceAll("(?s)/\\*.*?\\*/", "").replaceAll("//[^\n]*", "");
        for (String barred : BARRED) {
            Matcher m = Pattern.compile(barred).matcher(code);
            must(!m.find(), "LANGUAGE.md leaves out: " + barred);
        }
        checkLengths(text);
    }

    /** A method begins at eight blanks at most and ends with its brace at the same place. */
    private static void checkLengths(String text) {
        List<String> lines = Arrays.asList(text.split("\n"));
        Pattern head = Pattern.compile("( {4}| {8})(?=\\S)[\\w\\[\\] ]+\\(.*\\) \\{");
        for (int i = 0; i < lines.size(); i++) {
            Matcher m = head.matcher(lines.get(i));
            if (m.matches()) {
                int end = i;
                while (!lines.get(end).equals(m.group(1) + "}")) {
                    end++;
                }
                must(end - i <= 60, "rule 11: long is " + lines.get(i).trim());
            }
        }
    }
}
