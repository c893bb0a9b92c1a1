import java.lang.reflect.Constructor;
import java.lang.reflect.Field;
import java.lang.reflect.Method;

/**
 * Frames that no run of calls can make, and a message count that none reaches: some sentences of the document
 * are about these alone. It reaches into the object, so it must change when the object's inside does.
 */
final class Forged {
    private Forged() {
    }

    /** Puts a frame into the row (not the HIGH one) of a line; false if there is no room. */
    static boolean put(TwinNetwork x, int network, int line, int[] frame) {
        try {
            Object row = fieldOf(lineOf(x, network, line), "plainRow");
            Object made = newFrame(frame);
            Method add = row.getClass().getDeclaredMethod("add", made.getClass());
            add.setAccessible(true);
            return (boolean) add.invoke(row, made);
        } catch (ReflectiveOperationException e) {
            throw new AssertionError(e);
        }
    }

    /** Lets a link be as if so many messages had been written to it. */
    static void countMessages(TwinNetwork x, int l, int messages) {
        try {
            Object link = ((Object[]) fieldOf(x, "links"))[l];
            opened(link.getClass(), "messageCount").setInt(link, messages);
        } catch (ReflectiveOperationException e) {
            throw new AssertionError(e);
        }
    }

    private static Object lineOf(TwinNetwork x, int network, int line) throws ReflectiveOperationException {
        return ((Object[]) fieldOf(x, "lines"))[12 * network + line];
    }

    private static Object newFrame(int[] frame) throws ReflectiveOperationException {
        Constructor<?> constructor = Class.forName("TwinNetwork$Frame").getDeclaredConstructor();
        constructor.setAccessible(true);
        Object made = constructor.newInstance();
        byte[] bytes = (byte[]) fieldOf(made, "bytes");
        for (int k = 0; k < frame.length; k++) {
            bytes[k] = (byte) frame[k];
        }
        opened(made.getClass(), "size").setInt(made, frame.length);
        return made;
    }

    private static Object fieldOf(Object owner, String name) throws ReflectiveOperationException {
        return opened(owner.getClass(), name).get(owner);
    }

    private static Field opened(Class<?> owner, String name) throws ReflectiveOperationException {
        Field field = owner.getDeclaredField(name);
        field.setAccessible(true);
        return field;
    }
}
