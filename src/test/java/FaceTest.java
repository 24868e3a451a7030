import java.io.IOException;
import java.lang.reflect.Constructor;
import java.lang.reflect.Field;
import java.lang.reflect.Method;
import java.lang.reflect.Modifier;
import java.nio.file.Files;
import java.nio.file.Path;
import java.util.ArrayList;
import java.util.Collections;
import java.util.List;
import java.util.regex.Pattern;

/** The face is the document's, and the source keeps to what of LANGUAGE.md can be seen from its words. */
public final class FaceTest {
    private static final String[] FACE = {
        "int sign(int)", "boolean end(int)", "int roads()", "int rule()", "int reads(int)", "int meeting(int,int)",
        "int slow(int,int)", "int move(int,int,int)", "int sheet(int,int,int,int)", "boolean write(int,int,int,int)",
        "int hand(int,int)", "int undo(int)", "int lines(int)", "int of(int,int)", "int can(int)", "int goes(int,int)",
        "int read(int)", "int soonest(int,int,int)", "int latest(int,int,int)", "int hands(int,int,int)",
        "int cheapest(int,int,int)", "int without(int,int,int,int)", "long ways(int,int,int)", "int needs(int,int,int)",
        "int idle(int,int,int)", "int longest(int,int,int)", "int pairs(int)", "int bargain(int,int,int,int)",
        "int apart(int,int,int)", "int far(int,int)", "int worst(int,int,int)", "int way(int,int)", "int tale()",
        "int check(int)", "int copy(int)", "long fits(int,int,int)", "int sure(int,int,int)", "int writers(int,int)",
        "long missing(int,int,int)", "int lies(int,int,int)", "boolean lay()", "int copies(int,int,int)",
        "int when(int,int)", "int answer(int,int,int)", "int ask(int,int)", "int gossip(int,int,int)",
        "int postman(int,int)", "int heralds(int,int)", "boolean keep(int)", "boolean again(int)", "int count(int)",
        "int row(int)"};

    private static final String[] BARRED = {
        "->", "::", "\\bcatch\\b", "\\bfinally\\b", "\\bsynchronized\\b", "\\bassert\\b", "\\bSystem\\.(?!arraycopy)",
        "Exact\\(", "\\bdouble\\b", "\\bfloat\\b", "\\bpackage ", "\\.toString\\(", "\\bObject\\b", "\\bvar ",
        "\\bwhile \\(true", "\\bprotected\\b"};

    private final Checks checks = new Checks("FaceTest");

    public static void main(String[] args) throws IOException {
        FaceTest test = new FaceTest();
        test.members();
        test.names();
        test.source();
        test.checks.finish();
    }

    private void members() {
        Class<?> c = EachAddsALine.class;
        checks.due("final", Modifier.isFinal(c.getModifiers()) && Modifier.isPublic(c.getModifiers()), true);
        List<String> got = new ArrayList<>();
        for (Method m : c.getDeclaredMethods()) {
            if (Modifier.isPrivate(m.getModifiers()) || m.isSynthetic()) {
                continue;
            }
            checks.due(m + " is public and no more", m.getModifiers(), Modifier.PUBLIC);
            StringBuilder s = new StringBuilder(m.getReturnType() + " " + m.getName() + "(");
            for (int k = 0; k < m.getParameterCount(); k++) {
                s.append(k == 0 ? "" : ",").append(m.getParameterTypes()[k]);
            }
            got.add(s.append(")").toString());
        }
        List<String> want = new ArrayList<>(List.of(FACE));
        Collections.sort(got);
        Collections.sort(want);
        checks.due("the face " + got, got.equals(want), true);
        Constructor<?>[] makers = c.getDeclaredConstructors();
        checks.due("one constructor", makers.length == 1 && makers[0].getParameterCount() == 0
            && makers[0].getModifiers() == Modifier.PUBLIC, true);
        for (Field f : c.getDeclaredFields()) {
            boolean isFace = f.getName().equals("NONE");
            checks.due(f + " private", Modifier.isPrivate(f.getModifiers()), !isFace);
            checks.due(f + " final", Modifier.isFinal(f.getModifiers()), true);
        }
        checks.due("NONE", EachAddsALine.NONE, -1);
    }

    private void names() {
        Class<?>[] inside = EachAddsALine.class.getDeclaredClasses();
        checks.due("few classes", inside.length <= 11, true);
        for (Class<?> c : inside) {
            checks.due(c + " static", Modifier.isStatic(c.getModifiers()), true);
            checks.due(c + " not open", !Modifier.isPublic(c.getModifiers()) && !Modifier.isProtected(c.getModifiers()), true);
            for (Method m : c.getDeclaredMethods()) {
                for (String face : FACE) {
                    boolean isSame = face.contains(" " + m.getName() + "(");
                    checks.due(c + "." + m.getName() + " bears a name of the face", isSame, false);
                    checks.due(m + " parameters", m.getParameterCount() <= 7, true);
                }
            }
            checks.due(c + " fields", c.getDeclaredFields().length <= 20, true);
        }
    }

    private void source() throws IOException {
        String whole = Files.readString(Path.of("src/main/java/EachAddsALine.java"));
        String code = Pattern.compile("/\\*.*?\\*/|//[^\n]*", Pattern.DOTALL).matcher(whole).replaceAll("");
        for (String barred : BARRED) {
            checks.due("the source has " + barred, Pattern.compile(barred).matcher(code).find(), false);
        }
        for (int p = 0; p < whole.length(); p++) {
            if (whole.charAt(p) > 126) {
                checks.due("a sign above 126 at " + p, true, false);
            }
        }
        for (String line : code.split("\n")) {
            if (line.startsWith("import")) {
                checks.due(line, line.equals("import java.util.NoSuchElementException;"), true);
            }
        }
    }
}
