import java.lang.reflect.Constructor;
import java.lang.reflect.Field;
import java.lang.reflect.Method;
import java.lang.reflect.Modifier;
import java.util.Arrays;
import java.util.List;
import java.util.TreeSet;

/** The class has the document's face and no other public, protected or package-visible member. */
public final class HarvestLenderFace {
    private static final String I = "IndexOutOfBoundsException";
    private static final String A = "IllegalArgumentException";
    private static final String S = "IllegalStateException";

    private static final List<String> FACE = Arrays.asList(
        "new()",
        "NONE", "PURSE", "COVER", "PLEDGE", "SALE", "GROUP",
        "setNeed(int,int,int)" + I + A,
        "setCrop(int,int,int)" + I + A,
        "add(int)" + I + S,
        "farmers()",
        "plant(int,int,int)" + I + A + S,
        "cover(int,int)" + I + A + S,
        "draw(int,int)" + I + A + S,
        "setYield(int,int)" + I + A + S,
        "next()" + S,
        "pledge(int,int)" + I + A + S,
        "sell(int,int)" + I + A + S,
        "repay(int,int)" + I + A + S,
        "close()" + S,
        "season()",
        "stage()",
        "limit(int)" + I,
        "debt(int)" + I,
        "owes(int)" + I,
        "instalments(int)" + I,
        "purse(int)" + I,
        "grain(int,boolean)" + I,
        "called(int)" + I,
        "repaid(int,int)" + I + A,
        "charged(int)" + I);

    public static void main(String[] args) {
        TreeSet<String> found = new TreeSet<>();
        TreeSet<String> hidden = new TreeSet<>();
        for (Constructor<?> c : HarvestLender.class.getDeclaredConstructors()) {
            found.add("new" + types(c.getParameterTypes()) + names(c.getExceptionTypes()));
        }
        for (Field f : HarvestLender.class.getDeclaredFields()) {
            if (!Modifier.isPrivate(f.getModifiers())) {
                boolean constant = f.getModifiers() == (Modifier.PUBLIC | Modifier.STATIC | Modifier.FINAL);
                found.add((constant && f.getType() == int.class ? "" : "no constant ") + f.getName());
            }
        }
        for (Method m : HarvestLender.class.getDeclaredMethods()) {
            if (Modifier.isPrivate(m.getModifiers())) {
                hidden.add(m.getName());
            } else {
                boolean plain = m.getModifiers() == Modifier.PUBLIC && m.getReturnType() == int.class;
                found.add((plain ? "" : "no public int ") + m.getName() + types(m.getParameterTypes())
                    + names(m.getExceptionTypes()));
            }
        }
        boolean right = found.equals(new TreeSet<>(FACE))
            && HarvestLender.class.getModifiers() == (Modifier.PUBLIC | Modifier.FINAL);
        for (Method m : HarvestLender.class.getDeclaredMethods()) {
            right &= Modifier.isPrivate(m.getModifiers()) || !hidden.contains(m.getName());
        }
        System.out.println(right ? "the face is the document's" : "another face: " + found);
        if (!right) {
            System.exit(1);
        }
    }

    private static String types(Class<?>[] classes) {
        StringBuilder text = new StringBuilder("(");
        for (int i = 0; i < classes.length; i++) {
            text.append(i == 0 ? "" : ",").append(classes[i].getSimpleName());
        }
        return text.append(")").toString();
    }

    private static String names(Class<?>[] classes) {
        StringBuilder text = new StringBuilder();
        for (Class<?> c : classes) {
            text.append(c.getSimpleName());
        }
        return text.toString();
    }
}
