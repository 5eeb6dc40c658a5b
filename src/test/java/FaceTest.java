import java.io.IOException;
import java.lang.reflect.Constructor;
import java.lang.reflect.Field;
import java.lang.reflect.Method;
import java.lang.reflect.Modifier;
import java.nio.file.Files;
import java.nio.file.Path;
import java.util.ArrayList;
import java.util.Arrays;
import java.util.List;
import java.util.TreeSet;

/** The public face is the document's, and nothing else of the class can be seen. */
public final class FaceTest {
    private static final String[] METHODS = {
        "int append(int,int,int,int,int)", "int parse(int)", "int size(int)", "int time()", "int fleet()",
        "int bikes(int)", "int freeDocks(int)", "int brokenDocks(int)", "boolean isBalanced(int)",
        "int imbalance()", "int nearest(int,boolean)", "int rideMinutes(int,int)", "int quote(int,int)",
        "int bonusAt(int)", "int bestDeal(int)", "int riders()", "int rider(int,int)",
        "int ridesBetween(int,int)", "int busiestPair()", "int truck(int,int)", "int tourMinutes(int)",
        "int tourStop(int,int)", "int total(int)", "int forecast(int,int)", "int runsOut(int,boolean)",
        "int pass(int)", "int rent(int,int)", "int dispatch(int,int,int)", "int cancel(int)",
        "int breakDock(int)", "int repairDock(int)", "int addBikes(int,int)", "int removeBikes(int,int)",
        "int undo()", "boolean saveSnapshot(int)", "boolean restoreSnapshot(int)",
    };

    private static final int CLASS_CONSTANT_AND_CONSTRUCTOR = 3;

    private FaceTest() {
    }

    public static void main(String[] args) throws Exception {
        Class<?> face = BikeShare.class;
        Check.due("final", Modifier.isFinal(face.getModifiers()), true);
        Check.due("public", Modifier.isPublic(face.getModifiers()), true);
        TreeSet<String> shown = new TreeSet<>();
        TreeSet<String> shownNames = new TreeSet<>();
        List<Method> hidden = new ArrayList<>();
        for (Method method : face.getDeclaredMethods()) {
            if (Modifier.isPrivate(method.getModifiers())) {
                hidden.add(method);
            } else {
                Check.due("public " + method, Modifier.isPublic(method.getModifiers()), true);
                Check.due("of an object: " + method, Modifier.isStatic(method.getModifiers()), false);
                shown.add(signature(method));
                shownNames.add(method.getName());
            }
        }
        TreeSet<String> due = new TreeSet<>(Arrays.asList(METHODS));
        Check.due("methods as in the document: " + shown, shown.equals(due), true);
        for (Method method : hidden) {
            Check.due("a private method has a public one's name: " + method.getName(),
                    shownNames.contains(method.getName()), false);
        }
        for (Field field : face.getDeclaredFields()) {
            Check.due("shown only if NONE: " + field.getName(),
                    Modifier.isPrivate(field.getModifiers()), !field.getName().equals("NONE"));
        }
        Check.due("NONE", BikeShare.NONE, -1);
        Constructor<?>[] constructors = face.getDeclaredConstructors();
        Check.due("constructors", constructors.length, 1);
        Check.due("its parameters", constructors[0].getParameterCount(), 0);
        Check.due("it is public", Modifier.isPublic(constructors[0].getModifiers()), true);
        compareWithDocument();
        Check.end("FaceTest");
    }

    /** Each declaration stands in the class word for word: names of parameters and exceptions too. */
    private static void compareWithDocument() throws IOException {
        String text = Files.readString(Path.of("src/main/java/BikeShare.java")).replaceAll("\\s+", " ");
        List<String> due = Document.declarations();
        for (String declaration : due) {
            boolean constant = declaration.contains("=");
            String words = constant ? declaration : declaration.replaceAll("[ ;{]+$", " {");
            Check.due("the class says: " + words, text.contains(" " + words + " "), true);
        }
        if (!due.isEmpty()) {
            int declared = METHODS.length + CLASS_CONSTANT_AND_CONSTRUCTOR;
            Check.due("public things in the class", text.split(" public ", -1).length - 1, declared);
            // The promises declare the constructor and the methods once more.
            Check.due("declarations in the document", due.size(), declared + METHODS.length + 1);
        }
    }

    private static String signature(Method method) {
        List<String> types = new ArrayList<>();
        for (Class<?> type : method.getParameterTypes()) {
            types.add(type.getName());
        }
        return method.getReturnType().getName() + " " + method.getName() + "(" + String.join(",", types) + ")";
    }
}
