import java.io.IOException;
import java.lang.reflect.Constructor;
import java.lang.reflect.Field;
import java.lang.reflect.Method;
import java.lang.reflect.Modifier;
import java.nio.charset.StandardCharsets;
import java.nio.file.Files;
import java.nio.file.Path;
import java.util.Arrays;
import java.util.Set;
import java.util.TreeSet;
import java.util.regex.Matcher;
import java.util.regex.Pattern;
import java.util.stream.Collectors;

/** The public face, and what can be seen of ../shared/LANGUAGE.md in the source. */
public final class FaceTest {
    private static final Due due = new Due("FaceTest");
    private static final Path SOURCE = Path.of("src/main/java/FieldPumps.java");
    private static final Set<String> FACE = new TreeSet<>(Set.of("set/2", "pump/3", "service/2",
        "pumpOf/2", "curve/3", "readyAt/1", "balance/0", "zone/1", "open/2", "leak/1", "programme/3",
        "zoneOf/2", "fill/1", "reset/0", "pass/1", "foresee/2", "foreseeEvent/1", "station/1",
        "nightAt/1", "eventAt/2", "count/1", "undo/0", "type/1", "clearText/0", "fault/1", "play/0"));

    public static void main(String[] args) throws IOException {
        constants();
        methods();
        noOtherMembers();
        namesOfOwn();
        source();
        due.end();
    }

    private static void constants() {
        due.is(FieldPumps.INVALID_ARGUMENT, -1000001);
        due.is(FieldPumps.NOT_POSSIBLE, -1000002);
        due.is(FieldPumps.LIMIT_REACHED, -1000003);
        due.is(FieldPumps.NOT_FOUND, -1000004);
    }

    private static void methods() {
        Set<String> found = new TreeSet<>();
        for (Method method : FieldPumps.class.getDeclaredMethods()) {
            if (Modifier.isPublic(method.getModifiers())) {
                found.add(method.getName() + "/" + method.getParameterCount());
                due.isTrue(method + " takes and returns int", method.getReturnType() == int.class
                    && Arrays.stream(method.getParameterTypes()).allMatch(type -> type == int.class)
                    && !Modifier.isStatic(method.getModifiers()));
            }
        }
        due.isTrue("the methods of the document " + found, found.equals(FACE));
    }

    private static void noOtherMembers() {
        due.is(FieldPumps.class.getModifiers(), Modifier.PUBLIC | Modifier.FINAL);
        due.is(FieldPumps.class.getDeclaredConstructors().length, 1);
        for (Constructor<?> constructor : FieldPumps.class.getDeclaredConstructors()) {
            due.is(constructor.getModifiers(), Modifier.PUBLIC);
            due.is(constructor.getParameterCount(), 0);
        }
        int open = 0;
        for (Field field : FieldPumps.class.getDeclaredFields()) {
            open += Modifier.isPrivate(field.getModifiers()) ? 0 : 1;
        }
        due.is(open, 4);
        for (Method method : FieldPumps.class.getDeclaredMethods()) {
            due.isTrue(method + " is public or private", Modifier.isPublic(method.getModifiers())
                || Modifier.isPrivate(method.getModifiers()));
        }
        due.isTrue("twelve classes at most", FieldPumps.class.getDeclaredClasses().length < 12);
        for (Class<?> inside : FieldPumps.class.getDeclaredClasses()) {
            due.isTrue(inside + " is static", Modifier.isStatic(inside.getModifiers()));
        }
    }

    /** No method of the classes inside, and no private one, bears the name of a public one. */
    private static void namesOfOwn() {
        Set<String> names = FACE.stream().map(name -> name.substring(0, name.indexOf('/')))
            .collect(Collectors.toSet());
        for (Class<?> inside : FieldPumps.class.getDeclaredClasses()) {
            for (Method method : inside.getDeclaredMethods()) {
                due.isTrue(method + " has a name of its own", !names.contains(method.getName()));
            }
        }
        for (Method method : FieldPumps.class.getDeclaredMethods()) {
            due.isTrue(method + " has a name of its own", Modifier.isPublic(method.getModifiers())
                || !names.contains(method.getName()));
        }
    }

    private static void source() throws IOException {
        String text = Files.readString(SOURCE, StandardCharsets.US_ASCII);
        String code = text.replaceAll("(?s)/\\*.*?\\*/", " ").replaceAll("//[^\n]*", " ");
        for (String word : new String[] {"import", "package", "throw", "throws", "try", "catch",
            "finally", "synchronized", "assert", "protected", "System\\.(?!arraycopy)\\w+", "\\w+Exact",
            "while\\s*\\(\\s*true", "equals", "hashCode", "toString", "Object", "double", "float"}) {
            due.isTrue("no " + word, !Pattern.compile("\\b" + word + "\\b").matcher(code).find());
        }
        due.isTrue("no lambda or arrow", !code.contains("->") && !code.contains("::"));
        due.isTrue("no text that is joined", !code.contains("\""));
        due.isTrue("static fields are final", !Pattern.compile("\\bstatic (?!final\\b)\\w+(\\[\\])? \\w+( =|;)")
            .matcher(code).find());
        methodsAreShort(code);
    }

    private static void methodsAreShort(String code) {
        Matcher heads = Pattern.compile("(?m)^( +)[\\w\\[\\] ]+\\([^()]*\\) \\{$").matcher(code);
        int found = 0;
        while (heads.find()) {
            int end = code.indexOf("\n" + heads.group(1) + "}", heads.end());
            long lines = code.substring(heads.start(), end).chars().filter(c -> c == '\n').count();
            due.isTrue(heads.group().trim() + " is short", lines <= 50);
            found++;
        }
        due.isTrue("methods were found", found > 80);
    }
}
