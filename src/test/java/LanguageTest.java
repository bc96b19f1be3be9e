import java.io.IOException;
import java.lang.reflect.Executable;
import java.lang.reflect.Field;
import java.lang.reflect.Modifier;
import java.nio.file.Files;
import java.nio.file.Path;
import java.util.ArrayList;
import java.util.List;
import java.util.regex.Matcher;
import java.util.regex.Pattern;

/** Some of the rules of LANGUAGE.md that can be seen from the text of the class and from its members. */
public final class LanguageTest {
    private static final Check CHECK = new Check("LanguageTest");

    public static void main(String[] args) throws IOException {
        String text = Files.readString(Path.of("src/main/java/TwoRopes.java"));
        String code = text.replaceAll("//.*", "").replaceAll("(?s)/\\*.*?\\*/", "").replaceAll("'.'", "0").replaceAll("\"[^\"\\n]*\"", "TEXT");
        for (String word : new String[] {"throw", "throws", "try", "catch", "finally", "synchronized", "assert", "instanceof", "package",
            "System", "Random", "Thread", "record", "volatile"}) {
            CHECK.due("rules 3 to 13: " + word, Pattern.compile("\\b" + word + "\\b").matcher(code).find(), false);
        }
        for (String sign : new String[] {"->", "::", "@", "TEXT +", "+ TEXT", "static {"}) {
            CHECK.due("rules 2 to 10: " + sign, code.contains(sign), false);
        }
        Matcher imports = Pattern.compile("import (.*);").matcher(code);
        while (imports.find()) {
            CHECK.due("rule 4: " + imports.group(1), imports.group(1).equals("java.util.Arrays"), true);
        }
        List<Class<?>> all = new ArrayList<>(List.of(TwoRopes.class.getDeclaredClasses()));
        all.add(TwoRopes.class);
        CHECK.due("rule 11: classes", all.size() <= 12, true);
        for (Class<?> one : all) {
            members(one);
        }
        methodLengths(code);
        CHECK.finish();
    }

    private static void members(Class<?> one) {
        List<Executable> calls = new ArrayList<>(List.of(one.getDeclaredMethods()));
        calls.addAll(List.of(one.getDeclaredConstructors()));
        for (Executable call : calls) {
            CHECK.due("rule 11: parameters of " + call, call.getParameterCount() <= 7, true);
        }
        int fields = 0;
        for (Field field : one.getDeclaredFields()) {
            boolean fixed = Modifier.isStatic(field.getModifiers());
            CHECK.due("rule 5: " + field, !fixed || Modifier.isFinal(field.getModifiers()), true);
            fields += fixed ? 0 : 1;
        }
        CHECK.due("rule 11: fields of " + one, fields <= 20, true);
    }

    private static void methodLengths(String code) {
        Matcher heads = Pattern.compile("(?m)^( +)[\\w\\[\\] ]+\\([^;{]*\\) \\{$").matcher(code);
        while (heads.find()) {
            int end = code.indexOf("\n" + heads.group(1) + "}", heads.end());
            long lines = code.substring(heads.start(), Math.max(end, heads.start())).lines().count();
            CHECK.due("rule 11: lines of " + heads.group().trim(), lines <= 60, true);
        }
    }
}
