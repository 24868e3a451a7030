import java.lang.reflect.InvocationTargetException;
import java.lang.reflect.Method;
import java.util.Arrays;
import java.util.Comparator;

/**
 * What the tests of edges share. Each of their methods that is named p and two digits (the promise) is the test of
 * one sentence of the document, on a new object; all of them are found and run, so that none can be forgotten.
 */
abstract class Edges {
    static final String ROADS = "2;1;3;1;ab@5*2;bc@8*1;ac@9*4;cd@12*1;bd@13*3;ba@20";

    /** Stands for a NoSuchElementException. */
    static final int THROWS = Integer.MIN_VALUE;

    /** Far below, just below; what is just above what there is must be told by each test. */
    static final int[] BELOW = {-1, Integer.MIN_VALUE};

    EachAddsALine x;
    private final Checks checks;
    private String sentence = "";

    Edges(String name) {
        checks = new Checks(name);
    }

    void runAll() {
        Method[] methods = getClass().getDeclaredMethods();
        Arrays.sort(methods, Comparator.comparing(Method::getName));
        for (Method method : methods) {
            if (method.getName().matches("p\\d\\d[A-Z].*")) {
                sentence = method.getName();
                x = new EachAddsALine();
                run(method);
            }
        }
        checks.finish();
    }

    private void run(Method method) {
        try {
            method.invoke(this);
        } catch (InvocationTargetException e) {
            due("threw " + e.getCause(), 1, 0);
        } catch (IllegalAccessException e) {
            due("can't be run", 1, 0);
        }
    }

    void fresh(String roads) {
        x = new EachAddsALine();
        Checks.roads(x, roads);
    }

    /** All of PEOPLE that there can be, each reading an hour. */
    void nine() {
        fresh("1;1;1;1;1;1;1;1;1");
    }

    void due(String call, long got, long want) {
        checks.due(sentence + ": " + call, got, want);
    }

    void due(String call, boolean got, boolean want) {
        checks.due(sentence + ": " + call, got, want);
    }

    void row(int... want) {
        checks.dueRow(sentence, x, want);
    }

    int meeting(int m, int what) {
        return Checks.meetingAt(x, m, what);
    }

    int roads(String signs) {
        return Checks.roads(x, signs);
    }

    int rule(String signs) {
        return Checks.rule(x, signs);
    }

    int tale(String signs) {
        return Checks.tale(x, signs);
    }

    int way(String signs, int from, int hour) {
        return Checks.way(x, signs, from, hour);
    }

    /** The row becomes -1, -1, .., one for each of PEOPLE: no other call tells such a row here. */
    void markRow() {
        x.far(0, 99);
    }

    /** Holds that the row is still the one of markRow(). */
    void rowStays() {
        int[] marked = new int[x.count(0)];
        Arrays.fill(marked, -1);
        row(marked);
    }
}
