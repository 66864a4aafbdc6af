import java.lang.reflect.Constructor;
import java.lang.reflect.Field;
import java.lang.reflect.Method;
import java.lang.reflect.Modifier;
import java.util.Set;
import java.util.TreeSet;

/** The public face: what the document tells, and no other member that can be seen from outside. */
final class FaceTest {
    private static final Checks checks = new Checks("FaceTest");

    public static void main(String[] args) {
        Set<String> want = new TreeSet<>(Set.of(
                "int OK", "int DOWN", "int UNFORMATTED", "int NO_TRANSACTION", "int IN_TRANSACTION", "int ABSENT",
                "int FULL", "int NONE", "BlockStore()", "boolean disk(int,int,int)", "int format()",
                "int power(int)", "int recover()", "int begin()", "int put(int,int)", "int remove(int)",
                "int commit()", "int abort()", "int checkpoint()", "int get(int)", "boolean has(int)",
                "int size()", "int key(int)", "long sum(int,int,int)", "int word(int,int)", "int state()",
                "int count(int)"));
        Set<String> got = new TreeSet<>();
        Set<String> hidden = new TreeSet<>();
        for (Field f : BlockStore.class.getDeclaredFields()) {
            boolean constant = Modifier.isPublic(f.getModifiers()) && Modifier.isStatic(f.getModifiers())
                    && Modifier.isFinal(f.getModifiers());
            if (!Modifier.isPrivate(f.getModifiers())) {
                got.add((constant ? "" : "not constant ") + f.getType().getName() + " " + f.getName());
            }
        }
        for (Constructor<?> c : BlockStore.class.getDeclaredConstructors()) {
            got.add("BlockStore" + parameters(c.getParameterTypes()));
        }
        for (Method m : BlockStore.class.getDeclaredMethods()) {
            boolean plain = Modifier.isPublic(m.getModifiers()) && !Modifier.isStatic(m.getModifiers());
            if (Modifier.isPrivate(m.getModifiers())) {
                hidden.add(m.getName());
            } else {
                got.add((plain ? "" : "not plain ") + m.getReturnType().getName() + " " + m.getName()
                        + parameters(m.getParameterTypes()));
            }
        }
        for (String member : want) {
            checks.due("has " + member, got.contains(member), true);
        }
        for (String member : got) {
            checks.due("is told: " + member, want.contains(member), true);
        }
        for (String name : hidden) {
            boolean taken = want.stream().anyMatch(member -> member.contains(" " + name + "("));
            checks.due("a private method has the public name " + name, taken, false);
        }
        checks.due("final", Modifier.isFinal(BlockStore.class.getModifiers()), true);
        checks.due("public", Modifier.isPublic(BlockStore.class.getModifiers()), true);
        for (Class<?> inside : BlockStore.class.getDeclaredClasses()) {
            int seen = inside.getModifiers() & (Modifier.PUBLIC | Modifier.PROTECTED);
            checks.due("private or package-visible: " + inside.getName(), seen, 0);
        }
        int[] values = {BlockStore.OK, BlockStore.DOWN, BlockStore.UNFORMATTED, BlockStore.NO_TRANSACTION,
            BlockStore.IN_TRANSACTION, BlockStore.ABSENT, BlockStore.FULL, BlockStore.NONE};
        for (int i = 0; i < values.length; i++) {
            checks.due("constant " + i, values[i], -i);
        }
        checks.end();
    }

    private static String parameters(Class<?>[] types) {
        StringBuilder text = new StringBuilder("(");
        for (int i = 0; i < types.length; i++) {
            text.append(i == 0 ? "" : ",").append(types[i].getName());
        }
        return text.append(")").toString();
    }
}
