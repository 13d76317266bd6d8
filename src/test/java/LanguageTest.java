import java.io.IOException;
import java.lang.reflect.Field;
import java.lang.reflect.Method;
import java.lang.reflect.Modifier;
import java.nio.file.Files;
import java.nio.file.Path;
import java.util.ArrayList;
import java.util.List;
import java.util.TreeSet;
import java.util.regex.Matcher;
import java.util.regex.Pattern;

/** The rules of LANGUAGE.md that can be seen in the text and in the face of the class. */
public final class LanguageTest {
    private static final String FACE = "blow bounds broken clear count end facts first found hand layer letters"
            + " mend promise rule seek sets shrink spare weak why";
    private static final String[] RULED_OUT = {
        "\\bthrow\\b", "\\bthrows\\b", "\\btry\\b", "\\bcatch\\b", "\\bfinally\\b", "\\bsynchronized\\b",
        "\\bassert\\b", "->", "::", "\\bpackage\\b", "\\bExact\\b", "\\bSystem\\.(?!arraycopy\\b)", "\\bThread\\b",
        "\\bRandom\\b", "\\bObject\\b", "\\bvar\\b", "\\bprotected\\b", "\\bimport (?!java\\.util\\.(ArrayList|Arrays|List);)"
    };
    private static int wrong = 0;

    public static void main(String[] args) throws IOException {
        String text = Files.readString(Path.of("src/main/java/BlowSeeker.java"));
        String code = text.replaceAll("(?s)/\\*.*?\\*/", "").replaceAll("//[^\n]*", "");
        for (String ruledOut : RULED_OUT) {
            Matcher found = Pattern.compile(ruledOut).matcher(code);
            if (found.find()) {
                tell("ruled out: " + found.group());
            }
        }
        if (!text.chars().allMatch(sign -> sign == '\n' || sign >= 32 && sign < 127)) {
            tell("a sign that is not plain");
        }
        lookAtFace();
        lookAtClasses();
        lookAtMethods(code);
        System.out.println(wrong + " places are not as LANGUAGE.md wants them");
        if (wrong != 0) {
            System.exit(1);
        }
    }

    private static void tell(String what) {
        wrong++;
        System.out.println(what);
    }

    private static void lookAtFace() {
        List<String> names = new ArrayList<>();
        for (Method method : BlowSeeker.class.getDeclaredMethods()) {
            boolean isPublic = Modifier.isPublic(method.getModifiers());
            if (isPublic) {
                names.add(method.getName());
            } else if (!Modifier.isPrivate(method.getModifiers()) && !method.isSynthetic()) {
                tell("neither public nor private: " + method);
            }
        }
        names.sort(null);
        if (!String.join(" ", names).equals(FACE)) {
            tell("another face: " + names);
        }
        for (Field field : BlowSeeker.class.getDeclaredFields()) {
            boolean constant = List.of("NONE", "BAD", "STATE", "FULL").contains(field.getName());
            if (constant != Modifier.isPublic(field.getModifiers())) {
                tell("a field of the face: " + field);
            }
        }
    }

    private static void lookAtClasses() {
        Class<?>[] inside = BlowSeeker.class.getDeclaredClasses();
        if (inside.length > 11) {
            tell("too many classes: " + inside.length);
        }
        TreeSet<String> face = new TreeSet<>(List.of(FACE.split(" ")));
        for (Class<?> each : inside) {
            if (!Modifier.isStatic(each.getModifiers()) || Modifier.isPublic(each.getModifiers())) {
                tell("not static, or public: " + each);
            }
            for (Method method : each.getDeclaredMethods()) {
                if (face.contains(method.getName())) {
                    tell("the name of a public one: " + method);
                }
            }
            int fields = 0;
            for (Field field : each.getDeclaredFields()) {
                fields += Modifier.isStatic(field.getModifiers()) ? 0 : 1;
            }
            if (fields > 20) {
                tell("too many fields: " + each);
            }
        }
    }

    /** A method of this file ends at the first brace that stands as far in as its own line. */
    private static void lookAtMethods(String code) {
        String[] lines = code.split("\n");
        for (int i = 0; i < lines.length; i++) {
            String line = lines[i];
            String in = line.substring(0, line.length() - line.stripLeading().length());
            if (!line.endsWith(") {") || in.length() > 8 || line.strip().matches("(if|for|while|switch|\\}).*")) {
                continue;
            }
            int last = i;
            while (last < lines.length && !lines[last].equals(in + "}")) {
                last++;
            }
            if (last - i > 60) {
                tell("a long method: " + line.strip());
            }
        }
    }
}
