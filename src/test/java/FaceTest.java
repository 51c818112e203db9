import java.lang.reflect.Constructor;
import java.lang.reflect.Field;
import java.lang.reflect.Method;
import java.lang.reflect.Modifier;
import java.nio.file.Files;
import java.nio.file.Path;
import java.nio.file.Paths;
import java.util.ArrayList;
import java.util.Arrays;
import java.util.List;
import java.util.TreeSet;

/** The public face is the document's and nothing else, and the file keeps to rules of LANGUAGE.md that a text shows. */
final class FaceTest {
    private static final Checks CHECKS = new Checks("FaceTest");
    private static final String FACE = "boolean isLeaf(int) boolean isOversubscribed(int) boolean mayBorrow(int)"
            + " boolean restore(int) boolean save(int) int acquire(int,int) int advance(int) int ageAt(int,int)"
            + " int blockingNode(int,int) int borrowedCost(int) int burst(int) int busiestCost(int) int ceiling(int)"
            + " int child(int,int) int clearQueue(int) int costAt(int,int) int credit(int) int creditLimit(int)"
            + " int depth(int) int drainTime(int) int droppedCount(int) int enqueue(int,int) int fairShare(int)"
            + " int fairness() int faultCode() int faultPosition() int feed(int,int,int,int,int) int forecast(int,int)"
            + " int greatestCost(int) int headroom(int) int lender(int,int) int lentCost(int) int load() int logCount()"
            + " int loggedCost(int) int loggedLeaf(int) int loggedLender(int) int loggedTime(int) int mostServed()"
            + " int nameLetter(int,int) int nextLeaf() int nodeCount() int parent(int) int pathCeiling(int)"
            + " int priority(int) int queueLength(int) int queuedCost(int) int rate(int) int recentCost(int)"
            + " int refusal(int,int) int repeats(int,int) int requestAt(int,int) int sentCost(int) int sentCount(int)"
            + " int setCeiling(int,int) int setRate(int,int) int setWeight(int,int) int setupByte(int)"
            + " int setupLength() int time() int tokens(int) int truncate(int) int waitTime(int,int) int weight(int)";

    public static void main(String[] args) throws Exception {
        Class<?> face = RateLimiter.class;
        CHECKS.due("modifiers", Modifier.toString(face.getModifiers()), "public final");
        methods(face);
        fields(face);
        CHECKS.due("constructors", face.getDeclaredConstructors().length, 1);
        for (Constructor<?> made : face.getDeclaredConstructors()) {
            CHECKS.due("constructor", made.toString(), "public RateLimiter()");
        }
        CHECKS.due("classes inside, at most 12 with the face", face.getDeclaredClasses().length <= 11, true);
        for (Class<?> inside : face.getDeclaredClasses()) {
            CHECKS.due("static: " + inside, Modifier.isStatic(inside.getModifiers()), true);
            CHECKS.due("not public: " + inside, Modifier.isPublic(inside.getModifiers()), false);
        }
        words();
        CHECKS.finish();
    }

    private static void methods(Class<?> face) {
        TreeSet<String> found = new TreeSet<>();
        List<String> names = new ArrayList<>();
        for (Method method : face.getDeclaredMethods()) {
            if (Modifier.isPublic(method.getModifiers())) {
                names.add(method.getName());
                StringBuilder head = new StringBuilder(method.getReturnType().toString());
                head.append(' ').append(method.getName()).append('(');
                for (Class<?> type : method.getParameterTypes()) {
                    head.append(head.charAt(head.length() - 1) == '(' ? "" : ",").append(type);
                }
                found.add(head.append(')').toString());
            }
        }
        CHECKS.due("face", String.join(" ", found), FACE);
        List<Class<?>> classes = new ArrayList<>(Arrays.asList(face.getDeclaredClasses()));
        classes.add(face);
        for (Class<?> each : classes) {
            for (Method method : each.getDeclaredMethods()) {
                if (!Modifier.isPublic(method.getModifiers()) && !method.isSynthetic()) {
                    CHECKS.due("own name: " + method, names.contains(method.getName()), false);
                    CHECKS.due("private: " + method, each != face || Modifier.isPrivate(method.getModifiers()), true);
                    CHECKS.due("parameters: " + method, method.getParameterCount() <= 7, true);
                }
            }
        }
    }

    private static void fields(Class<?> face) {
        for (Field field : face.getDeclaredFields()) {
            boolean isConstant = field.getName().equals("INVALID") || field.getName().equals("NONE");
            String due = isConstant ? "public static final" : "private";
            String modifiers = Modifier.toString(field.getModifiers());
            CHECKS.due(field.toString(), isConstant ? modifiers.equals(due) : modifiers.startsWith(due), true);
            boolean isStatic = Modifier.isStatic(field.getModifiers());
            CHECKS.due("final: " + field, !isStatic || Modifier.isFinal(field.getModifiers()), true);
        }
    }

    private static void words() throws Exception {
        Path source = Paths.get("src/main/java/RateLimiter.java");
        for (String line : Files.readAllLines(source)) {
            String code = line.replaceAll("^\\s*(/\\*\\*|\\*|//).*", "").replaceAll("//.*", "");
            for (String word : new String[] {"import", "package", "throw", "throws", "try", "catch", "synchronized",
                "assert", "instanceof", "Object", "Exception", "Random", "System.nanoTime", "Exact"}) {
                CHECKS.due(word + " in: " + line, code.matches(".*\\b" + word + "\\b.*"), false);
            }
            CHECKS.due("no lambda or reference in: " + line, code.contains("->") || code.contains("::"), false);
        }
    }
}
