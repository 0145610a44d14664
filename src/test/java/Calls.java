import java.lang.reflect.InvocationTargetException;
import java.lang.reflect.Method;
import java.lang.reflect.Modifier;
import java.util.Arrays;

/** Calls methods of the face by name and tells their answers as texts. */
final class Calls {
    private Calls() {
    }

    static Method named(String name) {
        for (Method method : ContainerKit.class.getDeclaredMethods()) {
            if (method.getName().equals(name) && Modifier.isPublic(method.getModifiers())) {
                return method;
            }
        }
        throw new IllegalArgumentException("no such method: " + name);
    }

    /** The answer: a number, true or false, ok (of void), or throws.Name; a boolean argument counts 1 or 0. */
    static String answer(ContainerKit kit, String name, int... arguments) {
        Method method = named(name);
        Class<?>[] types = method.getParameterTypes();
        if (types.length != arguments.length) {
            throw new IllegalArgumentException(name + " takes " + types.length + " arguments");
        }
        Object[] values = new Object[types.length];
        for (int i = 0; i < types.length; i++) {
            values[i] = types[i] == boolean.class ? (Object) (arguments[i] != 0) : (Object) arguments[i];
        }
        try {
            Object result = method.invoke(kit, values);
            return method.getReturnType() == void.class ? "ok" : String.valueOf(result);
        } catch (InvocationTargetException e) {
            return thrown(method, e.getCause());
        } catch (IllegalAccessException e) {
            throw new IllegalStateException(e);
        }
    }

    /** Only the very classes that the face names count, and only if the program itself threw them. */
    private static String thrown(Method method, Throwable cause) {
        boolean named = Arrays.asList(method.getExceptionTypes()).contains(cause.getClass());
        StackTraceElement[] trace = cause.getStackTrace();
        boolean own = trace.length > 0 && trace[0].getClassName().startsWith("ContainerKit");
        return (named && own ? "throws." : "MACHINE throws.") + cause.getClass().getSimpleName();
    }
}
