import java.io.IOException;
import java.lang.reflect.Method;
import java.lang.reflect.Modifier;
import java.nio.file.Files;
import java.nio.file.Path;
import java.util.ArrayList;
import java.util.Arrays;
import java.util.HashSet;
import java.util.List;
import java.util.Set;
import java.util.TreeSet;
import java.util.regex.Matcher;
import java.util.regex.Pattern;

/** The face of the class against the document's, and the rules of LANGUAGE.md that a test can see. */
public final class FaceTest {
    private static final Pattern FACE = Pattern.compile("^    public (\\w+) (\\w+)\\((.*?)\\)(?: throws (.*?))?;$",
            Pattern.MULTILINE);

    public static void main(String[] args) throws IOException {
        String document = Files.readString(Path.of("../shared/DOC.md"));
        String source = Files.readString(Path.of("src/main/java/DustSheetMap.java"));
        theFaceIsTheDocuments(document);
        nothingElseCanBeSeen();
        noPrivateMethodBearsAPublicName();
        theSourceKeepsToTheLanguage(source);
        Check.end();
    }

    private static void theFaceIsTheDocuments(String document) {
        Set<String> want = new TreeSet<>();
        Matcher matcher = FACE.matcher(document);
        while (matcher.find()) {
            String parameters = matcher.group(3).replaceAll("(\\w+) \\w+", "$1");
            String thrown = matcher.group(4) == null ? "" : matcher.group(4);
            want.add(matcher.group(1) + " " + matcher.group(2) + "(" + parameters + ") " + thrown);
        }
        Check.same("methods of the document", "53", String.valueOf(want.size()));
        Set<String> got = new TreeSet<>();
        for (Method method : DustSheetMap.class.getDeclaredMethods()) {
            if (Modifier.isPublic(method.getModifiers())) {
                got.add(method.getReturnType().getSimpleName() + " " + method.getName() + "("
                        + names(method.getParameterTypes()) + ") " + names(method.getExceptionTypes()));
            }
        }
        Check.same("the face", want.toString(), got.toString());
    }

    private static String names(Class<?>[] types) {
        List<String> names = new ArrayList<>();
        for (Class<?> type : types) {
            names.add(type.getSimpleName());
        }
        return String.join(", ", names);
    }

    private static void nothingElseCanBeSeen() {
        Class<?> face = DustSheetMap.class;
        Check.same("public final", "true", "" + (Modifier.isPublic(face.getModifiers())
                && Modifier.isFinal(face.getModifiers())));
        Check.same("constructors", "[public DustSheetMap()]", Arrays.toString(face.getDeclaredConstructors()));
        for (Method method : face.getDeclaredMethods()) {
            int modifiers = method.getModifiers();
            Check.same(method + " is public or private", "true",
                    "" + (Modifier.isPublic(modifiers) || Modifier.isPrivate(modifiers)));
        }
        for (java.lang.reflect.Field field : face.getDeclaredFields()) {
            Check.same(field + " is private", "true", "" + Modifier.isPrivate(field.getModifiers()));
        }
        for (Class<?> inside : face.getDeclaredClasses()) {
            Check.same(inside + " is static and not public", "true", "" + (Modifier.isStatic(inside.getModifiers())
                    && !Modifier.isPublic(inside.getModifiers()) && !Modifier.isProtected(inside.getModifiers())));
        }
        for (Class<?> inside : face.getDeclaredClasses()) {
            Check.same(inside + " has some twenty fields at most", "true", "" + (fieldsOf(inside) <= 20));
        }
        Check.same("some twenty fields at most", "true", "" + (fieldsOf(face) <= 20));
        Check.same("at most twelve classes", "true", "" + (face.getDeclaredClasses().length + 1 <= 12));
    }

    private static int fieldsOf(Class<?> one) {
        int count = 0;
        for (java.lang.reflect.Field field : one.getDeclaredFields()) {
            count += Modifier.isStatic(field.getModifiers()) ? 0 : 1;
        }
        return count;
    }

    private static void noPrivateMethodBearsAPublicName() {
        Set<String> publicNames = new HashSet<>();
        for (Method method : DustSheetMap.class.getDeclaredMethods()) {
            if (Modifier.isPublic(method.getModifiers())) {
                publicNames.add(method.getName());
            }
        }
        List<Class<?>> all = new ArrayList<>(Arrays.asList(DustSheetMap.class.getDeclaredClasses()));
        all.add(DustSheetMap.class);
        for (Class<?> one : all) {
            for (Method method : one.getDeclaredMethods()) {
                if (one != DustSheetMap.class || !Modifier.isPublic(method.getModifiers())) {
                    Check.same(method + " has a name of its own", "false",
                            "" + publicNames.contains(method.getName()));
                }
                Check.same(method + " takes at most seven parameters", "true",
                        "" + (method.getParameterCount() <= 7));
            }
        }
    }

    private static void theSourceKeepsToTheLanguage(String source) {
        String code = source.replaceAll("(?s)/\\*.*?\\*/|//[^\\n]*", "").replaceAll("\"[^\"\\n]*\"", "\"\"");
        for (String word : new String[] {"->", "::", "catch", "finally", "synchronized", "assert", "package", "var ",
                "Math.random", "System.out", "System.nano", "System.current", "Exact(", "Object", "? extends", "long[]"}) {
            Check.same("the source has " + word, "false", "" + code.contains(word));
        }
        Set<String> imports = new TreeSet<>();
        Matcher matcher = Pattern.compile("^import (.*);$", Pattern.MULTILINE).matcher(source);
        while (matcher.find()) {
            imports.add(matcher.group(1));
        }
        Check.same("imports", "[java.util.ArrayList, java.util.Arrays, java.util.NoSuchElementException]",
                imports.toString());
        for (int i = 0; i < source.length(); i++) {
            if (source.charAt(i) > 127) {
                Check.same("sign " + i, "at most 127", "" + (int) source.charAt(i));
            }
        }
    }
}
