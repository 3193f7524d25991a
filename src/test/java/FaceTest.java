import java.lang.reflect.Constructor;
import java.lang.reflect.Field;
import java.lang.reflect.Method;
import java.lang.reflect.Modifier;
import java.util.Set;
import java.util.TreeSet;

/** The public face is the one of the document, no more and no less. */
public final class FaceTest {
    private static final Check CHECK = new Check("FaceTest");
    private static final String[] FACE = {
        "int NONE", "int BAD_INDEX", "int BAD_VALUE", "int BAD_STATE", "int FULL", "TrapSurvey()",
        "int setPressure(int, int)", "int addLine(int)", "int addTrap(int, int, int, int, int)",
        "int moveLine(int, int)", "int setWork(int, int, int)", "int count(int)", "int trap(int, int)",
        "int headerOf(int)", "int pressure(int)", "int read(int, int, int, int)",
        "int judge(int, int, int, int)", "int pass(int)", "int inState(int)", "int loss(int)",
        "int lineLoss(int)", "int headerLoss(int)", "long lost(int)", "long saves(int)",
        "int repairCost(int)", "long payback(int)", "int order(int)", "int repair(int)",
        "int repairAll(int)", "int isDue(int)", "int round(int)", "int roundLength()", "int dueOn(int)",
        "int undo()", "int type(int)", "int clearText()", "int textFault()", "int readAll()", "long digest()",
    };

    public static void main(String[] args) {
        CHECK.same("the face", new TreeSet<>(Set.of(FACE)).toString(), publicFace().toString());
        int modifiers = TrapSurvey.class.getModifiers();
        CHECK.due("the class is public", 1, Modifier.isPublic(modifiers) ? 1 : 0);
        CHECK.due("the class is final", 1, Modifier.isFinal(modifiers) ? 1 : 0);
        CHECK.end();
    }

    private static Set<String> publicFace() {
        Set<String> face = new TreeSet<>();
        for (Field field : TrapSurvey.class.getDeclaredFields()) {
            if (Modifier.isPublic(field.getModifiers())) {
                face.add(field.getType() + " " + field.getName());
            }
        }
        for (Constructor<?> constructor : TrapSurvey.class.getDeclaredConstructors()) {
            if (Modifier.isPublic(constructor.getModifiers())) {
                face.add("TrapSurvey" + parameters(constructor.getParameterTypes()));
            }
        }
        for (Method method : TrapSurvey.class.getDeclaredMethods()) {
            if (Modifier.isPublic(method.getModifiers())) {
                face.add(method.getReturnType() + " " + method.getName() + parameters(method.getParameterTypes()));
            }
        }
        return face;
    }

    private static String parameters(Class<?>[] types) {
        StringBuilder all = new StringBuilder("(");
        for (int i = 0; i < types.length; i++) {
            all.append(i == 0 ? "" : ", ").append(types[i].getName());
        }
        return all.append(')').toString();
    }
}
