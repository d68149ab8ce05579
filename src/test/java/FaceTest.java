import java.io.IOException;
import java.lang.reflect.Constructor;
import java.lang.reflect.Field;
import java.lang.reflect.Member;
import java.lang.reflect.Method;
import java.lang.reflect.Modifier;
import java.nio.file.Files;
import java.nio.file.Path;
import java.util.ArrayList;
import java.util.Collections;
import java.util.List;
import java.util.Set;
import java.util.stream.Collectors;
import java.util.stream.Stream;

// The face of the class is the document's, word by word, and what LANGUAGE.md says of members holds: its rules 1, 5
// and 11. Run in the project's directory, as .ci/run does.
public final class FaceTest {
    private static final Check c = new Check("FaceTest");

    public static void main(String[] args) throws IOException {
        List<String> due = new ArrayList<>();
        for (String line : Files.readAllLines(Path.of("../shared/DOC.md"))) {
            if (line.startsWith("    public ")) {
                due.add(line.strip());
            }
        }
        List<String> got = new ArrayList<>();
        for (Constructor<?> constructor : Switchyard.class.getDeclaredConstructors()) {
            got.add(lineOf(constructor, "", List.of(constructor.getParameterTypes()),
                constructor.getExceptionTypes()));
        }
        for (Method method : Switchyard.class.getDeclaredMethods()) {
            if (!Modifier.isPrivate(method.getModifiers())) {
                got.add(lineOf(method, method.getReturnType().getSimpleName() + " ",
                    List.of(method.getParameterTypes()), method.getExceptionTypes()));
            }
        }
        due.replaceAll(FaceTest::withoutNames);
        Collections.sort(due);
        Collections.sort(got);
        c.same("methods and the constructor of the document", due.size(), 51);
        c.count(got.equals(due), "the face is " + got + ", due is " + due);
        c.same("the class is public and final", Switchyard.class.getModifiers(), Modifier.PUBLIC | Modifier.FINAL);
        membersOf(Switchyard.class);
        nested();
        c.end();
    }

    private static String lineOf(Member member, String type, List<Class<?>> parameters, Class<?>[] thrown) {
        String throwsWhat = Stream.of(thrown).map(Class::getSimpleName).collect(Collectors.joining(", "));
        return Modifier.toString(member.getModifiers()) + " " + type + member.getName()
            + parameters.stream().map(Class::getSimpleName).collect(Collectors.joining(", ", "(", ")"))
            + (throwsWhat.isEmpty() ? ";" : " throws " + throwsWhat + ";");
    }

    // "int addLink(int a, int b)" becomes "int addLink(int, int)": how parameters are called is not compiled
    private static String withoutNames(String line) {
        return line.replaceAll("(int|boolean) \\w+([,)])", "$1$2");
    }

    private static void membersOf(Class<?> of) {
        int own = 0;
        for (Field field : of.getDeclaredFields()) {
            int modifiers = field.getModifiers();
            own += Modifier.isStatic(modifiers) ? 0 : 1;
            c.count(!Modifier.isStatic(modifiers) || Modifier.isFinal(modifiers), field + " is not final");
            c.count(of != Switchyard.class || Modifier.isPrivate(modifiers), field + " is not private");
        }
        c.count(own <= 20, of + " has " + own + " fields");
        Set<String> face = Stream.of(Switchyard.class.getMethods()).map(Method::getName).collect(Collectors.toSet());
        for (Method method : of.getDeclaredMethods()) {
            boolean isPrivate = Modifier.isPrivate(method.getModifiers());
            c.count(!isPrivate || !face.contains(method.getName()), method + " bears the name of a public one");
            c.count(method.getParameterCount() <= 7, method + " has more than seven parameters");
        }
    }

    private static void nested() {
        Class<?>[] classes = Switchyard.class.getDeclaredClasses();
        c.count(1 + classes.length <= 12, "there are " + (1 + classes.length) + " classes");
        for (Class<?> one : classes) {
            int modifiers = one.getModifiers();
            c.count(Modifier.isStatic(modifiers), one + " is not static");
            c.count(!Modifier.isPublic(modifiers) && !Modifier.isProtected(modifiers), one + " is seen from outside");
            membersOf(one);
        }
    }
}
