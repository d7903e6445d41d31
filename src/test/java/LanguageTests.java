import java.io.IOException;
import java.lang.reflect.Constructor;
import java.lang.reflect.Field;
import java.lang.reflect.Method;
import java.lang.reflect.Modifier;
import java.nio.charset.StandardCharsets;
import java.nio.file.Files;
import java.nio.file.Path;
import java.util.Arrays;
import java.util.Set;
import java.util.TreeSet;
import java.util.regex.Matcher;
import java.util.regex.Pattern;

/** The face of TagRoot, and the rules of LANGUAGE.md that a look at the source can tell. */
public final class LanguageTests {
    private static final String[] FACE = {
        "int type(char) IllegalArgumentException IllegalStateException",
        "int enter() IllegalStateException",
        "int tags()",
        "char letter(int,int) IndexOutOfBoundsException",
        "int addThing() IllegalStateException",
        "int things()",
        "boolean tag(int,int) IndexOutOfBoundsException",
        "boolean untag(int,int) IndexOutOfBoundsException",
        "int mass(int,int,int) IndexOutOfBoundsException IllegalArgumentException",
        "int undo() IllegalStateException",
        "int kept()",
        "int hand(int) IndexOutOfBoundsException",
        "int ask(int,int,int) IndexOutOfBoundsException IllegalArgumentException IllegalStateException",
        "int vote(int,int,boolean) IndexOutOfBoundsException IllegalArgumentException IllegalStateException",
        "int standing(int) IndexOutOfBoundsException",
        "boolean couldPass(int) IndexOutOfBoundsException",
        "int clashes(int) IndexOutOfBoundsException",
        "int alias(int) IndexOutOfBoundsException",
        "int end(int) IndexOutOfBoundsException",
        "boolean implies(int,int) IndexOutOfBoundsException",
        "int shown(int) IndexOutOfBoundsException",
        "int shownByHand(int) IndexOutOfBoundsException",
        "int users(int) IndexOutOfBoundsException",
        "int reason(int,int) IndexOutOfBoundsException",
        "int count(int,int,int) IllegalArgumentException",
        "int match(int,int,int,int) IndexOutOfBoundsException IllegalArgumentException",
    };
    private static final String[] CONSTANTS = {
        "NONE=-1", "ALIAS=0", "IMPLY=1", "LIFT_ALIAS=2", "LIFT_IMPLY=3",
        "OPEN=0", "PASSED=1", "FAILED=2", "ADD=0", "TAKE=1", "REPLACE=2",
    };
    private static final String[] RULED_OUT = {
        "import", "package", "try", "catch", "finally", "synchronized", "assert", "instanceof", "record", "var",
        "protected", "->", "::", "Exact", "System", "Object", "toString", "hashCode", "native", "volatile",
    };

    private static final Set<String> LIBRARY = Set.of("Integer.bitCount", "Math.abs", "Math.min");

    private static int wrong = 0;

    public static void main(String[] args) throws IOException, IllegalAccessException {
        theFaceIsTheDocuments();
        theConstantsAreTheDocuments();
        nothingElseIsSeen();
        classesStaySmall();
        String source = Files.readString(Path.of("src/main/java/TagRoot.java"), StandardCharsets.UTF_8);
        theSourceKeepsToThePart(source);
        methodsStayShort(source);
        System.out.println("LanguageTests: " + wrong + " wrong");
        if (wrong != 0) {
            System.exit(1);
        }
    }

    private static void fault(boolean isFault, String what) {
        if (isFault) {
            wrong++;
            System.out.println(what);
        }
    }

    private static void theFaceIsTheDocuments() {
        fault(!Modifier.isFinal(TagRoot.class.getModifiers()), "the class is not final");
        Set<String> got = new TreeSet<>();
        for (Method method : TagRoot.class.getDeclaredMethods()) {
            if (Modifier.isPublic(method.getModifiers())) {
                got.add(signature(method));
            }
        }
        Set<String> want = new TreeSet<>(Arrays.asList(FACE));
        fault(!got.equals(want), "the public methods are " + got);
        Constructor<?>[] constructors = TagRoot.class.getDeclaredConstructors();
        fault(constructors.length != 1 || !Modifier.isPublic(constructors[0].getModifiers())
                || constructors[0].getParameterCount() != 0, "the constructors are not the document's");
    }

    private static String signature(Method method) {
        StringBuilder text = new StringBuilder();
        text.append(method.getReturnType()).append(' ').append(method.getName()).append('(');
        for (int parameter = 0; parameter < method.getParameterCount(); parameter++) {
            text.append(parameter > 0 ? "," : "").append(method.getParameterTypes()[parameter]);
        }
        text.append(')');
        for (Class<?> exception : method.getExceptionTypes()) {
            text.append(' ').append(exception.getSimpleName());
        }
        return text.toString();
    }

    private static void theConstantsAreTheDocuments() throws IllegalAccessException {
        Set<String> got = new TreeSet<>();
        for (Field field : TagRoot.class.getDeclaredFields()) {
            if (Modifier.isPublic(field.getModifiers())) {
                fault(!Modifier.isStatic(field.getModifiers()) || !Modifier.isFinal(field.getModifiers()),
                        field.getName() + " is no constant");
                got.add(field.getName() + "=" + field.get(null));
            }
        }
        fault(!got.equals(new TreeSet<>(Arrays.asList(CONSTANTS))), "the constants are " + got);
    }

    private static void nothingElseIsSeen() {
        Set<String> face = new TreeSet<>();
        for (Method method : TagRoot.class.getMethods()) {
            face.add(method.getName());
        }
        for (Method method : TagRoot.class.getDeclaredMethods()) {
            int modifiers = method.getModifiers();
            fault(!Modifier.isPublic(modifiers) && !Modifier.isPrivate(modifiers), method + " is seen");
            fault(Modifier.isPrivate(modifiers) && face.contains(method.getName()), method + " bears a public name");
        }
        for (Field field : TagRoot.class.getDeclaredFields()) {
            int modifiers = field.getModifiers();
            fault(!Modifier.isPublic(modifiers) && !Modifier.isPrivate(modifiers), field + " is seen");
            fault(Modifier.isStatic(modifiers) && !Modifier.isFinal(modifiers), field + " is static and changes");
        }
        Class<?>[] inside = TagRoot.class.getDeclaredClasses();
        fault(inside.length > 11, "there are more than twelve classes");
        for (Class<?> one : inside) {
            fault(Modifier.isPublic(one.getModifiers()) || !Modifier.isStatic(one.getModifiers()), one + " is seen");
            for (Method method : one.getDeclaredMethods()) {
                fault(face.contains(method.getName()), method + " bears a public name");
            }
        }
    }

    private static void classesStaySmall() {
        staysSmall(TagRoot.class);
        for (Class<?> one : TagRoot.class.getDeclaredClasses()) {
            staysSmall(one);
        }
    }

    private static void staysSmall(Class<?> one) {
        int fields = 0;
        for (Field field : one.getDeclaredFields()) {
            fields += Modifier.isStatic(field.getModifiers()) ? 0 : 1;
        }
        fault(fields > 20, one + " has more than twenty fields");
        for (Method method : one.getDeclaredMethods()) {
            fault(method.getParameterCount() > 7, method + " takes more than seven parameters");
        }
    }

    private static void theSourceKeepsToThePart(String source) {
        for (int index = 0; index < source.length(); index++) {
            char character = source.charAt(index);
            fault(character > 126 || character < 32 && character != '\n', "a sign by its number: " + (int) character);
        }
        String code = source.replaceAll("(?s)/\\*.*?\\*/", "").replaceAll("//[^\n]*", "")
                .replaceAll("\"[^\"\n]*\"", "\"\"");
        for (String word : RULED_OUT) {
            boolean isWord = Character.isLetter(word.charAt(0)) && !word.equals("Exact");
            Matcher matcher = Pattern.compile(isWord ? "\\b" + word + "\\b" : word).matcher(code);
            fault(matcher.find(), "the source has " + word);
        }
        Matcher call = Pattern.compile("\\b(Integer|Math|Long|Arrays|String|Character|Boolean)\\.(\\w+)").matcher(code);
        while (call.find()) {
            String name = call.group(1) + "." + call.group(2);
            fault(!LIBRARY.contains(name), "the library's " + name);
        }
        Matcher thrown = Pattern.compile("throw new (\\w+)\\(\"\"\\);").matcher(code);
        int known = 0;
        while (thrown.find()) {
            known++;
        }
        fault(code.split("\\bthrow\\b", -1).length - 1 != known, "a throw of another form");
    }

    private static void methodsStayShort(String source) {
        String[] lines = source.split("\n");
        Pattern head = Pattern.compile("( {4}| {8})\\w[\\w<>\\[\\], ]*\\(.*\\)(.*\\{)?");
        int start = -1;
        String close = "";
        for (int line = 0; line < lines.length; line++) {
            Matcher matcher = head.matcher(lines[line]);
            if (start < 0 && matcher.matches()) {
                start = line;
                close = matcher.group(1) + "}";
            } else if (start >= 0 && lines[line].equals(close)) {
                fault(line - start > 60, "a long method at line " + (start + 1));
                start = -1;
            }
        }
        fault(start >= 0, "a method without an end at line " + (start + 1));
    }
}
