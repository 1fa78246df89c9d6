import java.io.IOException;
import java.lang.reflect.Constructor;
import java.lang.reflect.Field;
import java.lang.reflect.Member;
import java.lang.reflect.Method;
import java.lang.reflect.Modifier;
import java.nio.file.Files;
import java.nio.file.Path;
import java.util.ArrayList;
import java.util.HashSet;
import java.util.List;
import java.util.Set;

/** The face as the document has it, the plain part of LANGUAGE.md, and calls with any arguments. */
public final class FaceTests {
    private static final String[] FACE = {
        "public int begin(int,int)", "public int setBlock(int,int)", "public int setLoss(int,int)",
        "public int setWeight(int,int)", "public int set(int,int)", "public int run(int)",
        "public int inject(int)", "public int undo()", "public int told(int)", "public int block(int,int)",
        "public int packet(int,int,int)", "public int waiting(int,int)", "public int node(int,int)",
        "public int novel(int,int)", "public float overhead()", "public int forecast(int)",
        "public int bestPolicy()", "public int bearable(int,int)", "public int keep(int)", "public int back(int)",
        "public static final int BAD", "public static final int STATE", "public static final int NONE",
        "public RelayTransfer()"};
    private static final int[] ODD = {Integer.MIN_VALUE, -65536, -9, -1, 0, 1, 2, 3, 4, 5, 6, 12, 13, 16, 20, 21,
        31, 32, 33, 64, 99, 100, 101, 255, 256, 4095, 4096, 65535, Integer.MAX_VALUE - 1, Integer.MAX_VALUE};
    private static final int[] FEW = {Integer.MIN_VALUE, -1, 0, 1, 2, 11, 20, Integer.MAX_VALUE};

    private final Checks checks = new Checks();

    public static void main(String[] args) throws IOException {
        FaceTests tests = new FaceTests();
        tests.constants();
        tests.face();
        tests.source();
        tests.anyArguments();
        tests.fullObject();
        tests.checks.finish("FaceTests");
    }

    private void constants() {
        checks.due("BAD", RelayTransfer.BAD, -1);
        checks.due("STATE", RelayTransfer.STATE, -2);
        checks.due("NONE", RelayTransfer.NONE, -9);
    }

    private void face() {
        Set<String> open = new HashSet<>();
        Set<String> names = new HashSet<>();
        List<Member> members = new ArrayList<>();
        members.addAll(List.of(RelayTransfer.class.getDeclaredMethods()));
        members.addAll(List.of(RelayTransfer.class.getDeclaredFields()));
        members.addAll(List.of(RelayTransfer.class.getDeclaredConstructors()));
        for (Member m : members) {
            if (!Modifier.isPrivate(m.getModifiers()) && !m.isSynthetic()) {
                open.add(text(m));
                names.add(m.getName());
            }
        }
        checks.holds("the face is that of the document: " + open, open.equals(Set.of(FACE)));
        checks.holds("the class is public and final", RelayTransfer.class.getModifiers() == 17);
        for (Member m : members) {
            boolean hidden = m instanceof Method && Modifier.isPrivate(m.getModifiers());
            checks.holds("no private method is named " + m.getName(), !hidden || !names.contains(m.getName()));
        }
        for (Class<?> inner : RelayTransfer.class.getDeclaredClasses()) {
            checks.holds(inner + " is static", Modifier.isStatic(inner.getModifiers()));
            for (Method m : inner.getDeclaredMethods()) {
                checks.holds("no inner method is named " + m.getName(), !names.contains(m.getName()));
                checks.holds(m + " takes seven at most", m.getParameterCount() <= 7);
            }
            checks.holds(inner + " has twenty fields at most", inner.getDeclaredFields().length <= 20);
        }
        checks.holds("twelve classes at most", RelayTransfer.class.getDeclaredClasses().length <= 12);
    }

    private static String text(Member m) {
        String text = m instanceof Method ? ((Method) m).toString()
            : m instanceof Field ? ((Field) m).toString() : ((Constructor<?>) m).toString();
        return text.replace("RelayTransfer.", "");
    }

    /** Run from the root of the project, as .ci/run does. */
    private void source() throws IOException {
        String text = Files.readString(Path.of("src/main/java/RelayTransfer.java"));
        String code = text.replaceAll("(?s)/\\*.*?\\*/", "").replaceAll("//[^\n]*", "");
        String[] outside = {"->", "::", "\\bimport\\b", "\\bpackage\\b", "\\btry\\b", "\\bcatch\\b", "\\bfinally\\b",
            "\\bthrows?\\b", "\\bassert\\b", "\\bsynchronized\\b", "\\binstanceof\\b", "Exact\\b", "\"", "\\bSystem\\.out",
            "\\bnanoTime\\b", "\\bcurrentTimeMillis\\b", "\\bRandom\\b", "\\bThread\\b"};
        for (String word : outside) {
            checks.holds("nothing of " + word, !java.util.regex.Pattern.compile(word).matcher(code).find());
        }
        for (String line : text.split("\n")) {
            checks.holds("plain signs, at most 120: " + line, line.matches("[ -~]{0,120}"));
        }
        checks.holds("new stands in constructors and fields alone",
            code.split("\\bnew\\b").length == code.split("(= |\\{\n *\\w+\\[i\\] = )new\\b").length);
    }

    /** What any call throws ends this program, and so fails it. */
    private void anyArguments() {
        int pairs = 0;
        RelayTransfer x = new RelayTransfer();
        for (int a : ODD) {
            for (int b : ODD) {
                // No object is used for more than 512 calls; a pair takes 26 of them.
                if (pairs % 19 == 0) {
                    x = new RelayTransfer();
                }
                pairs++;
                change(x, a, b);
                ask(x, a, b);
            }
        }
        checks.holds("any arguments are answered", true);
    }

    private void change(RelayTransfer x, int a, int b) {
        x.begin(a, b);
        x.setBlock(a, b);
        x.setLoss(a, b);
        x.setWeight(a, b);
        x.set(a, b);
        x.inject(a);
        x.run(a);
        x.keep(a);
        x.back(b);
        if ((a ^ b) % 3 == 0) {
            x.undo();
        }
    }

    private void ask(RelayTransfer x, int a, int b) {
        x.told(a);
        x.block(a, b);
        x.waiting(a, b);
        x.node(a, b);
        x.novel(a, b);
        x.overhead();
        x.forecast(a);
        x.bearable(a, b);
        for (int c : FEW) {
            x.packet(a, b, c);
        }
    }

    /** The dearest calls one after another on the largest transfer. */
    private void fullObject() {
        for (int policy = 0; policy <= 3; policy++) {
            RelayTransfer x = new RelayTransfer();
            x.begin(12, 3);
            x.set(0, 4);
            x.set(1, policy);
            x.set(2, 1);
            for (int i = 0; i < 20; i++) {
                x.bearable(i % 4, 100);
                x.bestPolicy();
                x.forecast(i % 2);
                x.run(1 + 4 * i);
                x.keep(i % 2);
            }
            checks.due("time", x.told(2), 20 + 4 * 190);
        }
    }
}
