import java.lang.reflect.Constructor;
import java.lang.reflect.Field;
import java.lang.reflect.Method;
import java.lang.reflect.Modifier;
import java.util.Set;
import java.util.TreeSet;

/** The class has the document's face, and no other member that can be seen from outside. */
public final class FaceTest extends Check {
    private static final String[] CONSTANTS = {
        "BAD_ARGUMENT", "FULL", "NONE", "NOT_ENOUGH", "STATE"
    };
    /** Each method with the number of its arguments, which are all int, as is the answer. */
    private static final String[] METHODS = {
        "affordable 3", "append 2", "buy 4", "buySet 4", "cancel 1", "cancelMarket 1", "cost 3",
        "count 1", "deposit 2", "history 2", "holding 3", "market 2", "openLinked 5",
        "openMarket 3", "order 2", "paid 2", "place 5", "price 2", "restore 0", "save 0", "sell 4",
        "settle 2", "shares 2", "sharesFor 3", "tick 1", "trade 0", "trader 2", "voidReason 2",
        "waiting 2", "withdraw 2",
    };

    public static void main(String[] args) {
        Class<?> maker = PredictionMaker.class;
        isTrue("public and final", maker.getModifiers() == (Modifier.PUBLIC | Modifier.FINAL));
        constants(maker);
        Set<String> names = methods(maker);
        Constructor<?>[] constructors = maker.getDeclaredConstructors();
        due("constructors", constructors.length, 1);
        isTrue("public constructor", Modifier.isPublic(constructors[0].getModifiers()));
        due("its arguments", constructors[0].getParameterCount(), 0);
        for (Class<?> inside : maker.getDeclaredClasses()) {
            String name = inside.getSimpleName();
            isTrue(name + " is static", Modifier.isStatic(inside.getModifiers()));
            int seen = inside.getModifiers() & (Modifier.PUBLIC | Modifier.PROTECTED);
            due(name + " is not seen", seen, 0);
            for (Method method : inside.getDeclaredMethods()) {
                isTrue(method + " bears a name of its own", !names.contains(method.getName()));
            }
            fewFields(inside);
        }
        fewFields(maker);
        isTrue("at most twelve classes", maker.getDeclaredClasses().length < 12);
        end();
    }

    private static void constants(Class<?> maker) {
        Set<String> found = new TreeSet<>();
        for (Field field : maker.getDeclaredFields()) {
            if (!Modifier.isPrivate(field.getModifiers())) {
                int due = Modifier.PUBLIC | Modifier.STATIC | Modifier.FINAL;
                due(field.getName(), field.getModifiers(), due);
                isTrue(field.getName() + " is int", field.getType() == int.class);
                found.add(field.getName());
            }
        }
        isTrue("constants " + found, found.equals(new TreeSet<>(Set.of(CONSTANTS))));
    }

    private static Set<String> methods(Class<?> maker) {
        Set<String> found = new TreeSet<>();
        Set<String> names = new TreeSet<>();
        for (Method method : maker.getDeclaredMethods()) {
            if (!Modifier.isPrivate(method.getModifiers())) {
                due(method.getName() + " is public", method.getModifiers(), Modifier.PUBLIC);
                isTrue(method.getName() + " answers int", method.getReturnType() == int.class);
                for (Class<?> type : method.getParameterTypes()) {
                    isTrue(method.getName() + " takes int", type == int.class);
                }
                found.add(method.getName() + " " + method.getParameterCount());
                names.add(method.getName());
            }
        }
        isTrue("methods " + found, found.equals(new TreeSet<>(Set.of(METHODS))));
        for (Method method : maker.getDeclaredMethods()) {
            if (Modifier.isPrivate(method.getModifiers())) {
                isTrue(method + " bears a name of its own", !names.contains(method.getName()));
            }
        }
        return names;
    }

    private static void fewFields(Class<?> type) {
        int fields = 0;
        for (Field field : type.getDeclaredFields()) {
            if (Modifier.isStatic(field.getModifiers())) {
                isTrue(field + " is final", Modifier.isFinal(field.getModifiers()));
            } else {
                fields++;
            }
        }
        isTrue(type.getSimpleName() + " has at most twenty fields", fields <= 20);
        for (Method method : type.getDeclaredMethods()) {
            isTrue(method + " takes at most seven", method.getParameterCount() <= 7);
        }
    }
}
