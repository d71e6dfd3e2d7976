import java.io.IOException;
import java.lang.reflect.Constructor;
import java.lang.reflect.Field;
import java.lang.reflect.Method;
import java.lang.reflect.Modifier;
import java.nio.file.Files;
import java.nio.file.Path;
import java.util.Set;
import java.util.TreeSet;
import java.util.regex.Pattern;

/** The face is the document's and nothing else, and the source has none of the words that LANGUAGE.md rules out. */
public final class LampsOfDissentFace {
    private static final String[] FACE = {"write 1", "wipe 0", "fault 0", "lay 0", "person 2", "work 2", "pass 1", "move 2",
        "alter 2", "ration 1", "undo 0", "light 2", "lit 1", "reach 1", "first 0", "homes 1", "apart 3", "talk 2",
        "settles 0", "seen 2", "forget 0", "may 2", "smokes 0", "married 1", "falseBy 3", "winter 3", "keep 0", "back 0",
        "count 1"};
    private static final String[] RULED_OUT = {"throw", "throws", "try", "catch", "synchronized", "assert", "protected",
        "Random", "System\\.(?!arraycopy)", "Thread", "HashMap", "->", "::", "\\w+Exact", "MAX_VALUE", "MIN_VALUE",
        "package", "import (?!java\\.util\\.Arrays;)"};
    private static int wrong = 0;

    public static void main(String[] args) throws IOException {
        members();
        source();
        System.out.println(wrong == 0 ? "the face is as due" : wrong + " things are not as due");
        if (wrong != 0) {
            System.exit(1);
        }
    }

    private static void check(boolean so, String what) {
        if (!so) {
            wrong++;
            System.out.println(what);
        }
    }

    private static void members() {
        Set<String> due = new TreeSet<>(Set.of(FACE));
        Set<String> got = new TreeSet<>();
        Set<String> names = new TreeSet<>();
        for (Method method : LampsOfDissent.class.getDeclaredMethods()) {
            if (Modifier.isPublic(method.getModifiers())) {
                got.add(method.getName() + " " + method.getParameterCount());
                names.add(method.getName());
                check(method.getReturnType() == int.class, method + " answers no int");
            } else {
                check(Modifier.isPrivate(method.getModifiers()), method + " is not private");
            }
        }
        check(got.equals(due), "public methods are " + got);
        for (Field field : LampsOfDissent.class.getDeclaredFields()) {
            boolean constant = Set.of("BAD", "NO", "FULL", "NONE").contains(field.getName());
            check(constant ? Modifier.isPublic(field.getModifiers()) : Modifier.isPrivate(field.getModifiers()), field + " is seen");
        }
        Constructor<?>[] made = LampsOfDissent.class.getDeclaredConstructors();
        check(made.length == 1 && made[0].getParameterCount() == 0, "there are other constructors");
        check(Modifier.isFinal(LampsOfDissent.class.getModifiers()), "the class is not final");
        for (Class<?> inside : LampsOfDissent.class.getDeclaredClasses()) {
            check(Modifier.isStatic(inside.getModifiers()), inside + " is not static");
            for (Method method : inside.getDeclaredMethods()) {
                check(!names.contains(method.getName()), method + " bears a public name");
                check(method.getParameterCount() <= 7, method + " has too many parameters");
            }
        }
        Set<String> hidden = new TreeSet<>();
        for (Method method : LampsOfDissent.class.getDeclaredMethods()) {
            if (Modifier.isPrivate(method.getModifiers())) {
                hidden.add(method.getName());
            }
        }
        hidden.retainAll(names);
        check(hidden.isEmpty(), "private ones bear public names: " + hidden);
    }

    private static void source() throws IOException {
        String source = Files.readString(Path.of("src/main/java/LampsOfDissent.java"));
        String bare = source.replaceAll("(?s)/\\*.*?\\*/", "").replaceAll("//[^\n]*", "").replaceAll("\"[^\"\n]*\"", "\"\"");
        for (String word : RULED_OUT) {
            String whole = Character.isLetter(word.charAt(0)) ? "\\b" + word : word;
            whole = word.matches("\\w+") ? whole + "\\b" : whole;
            check(!Pattern.compile(whole).matcher(bare).find(), "the source has " + word);
        }
        check(source.chars().allMatch(sign -> sign < 128), "the source has signs above 127");
    }
}
