import java.lang.reflect.Field;
import java.lang.reflect.Method;
import java.lang.reflect.Modifier;
import java.util.Arrays;
import java.util.NoSuchElementException;
import java.util.TreeSet;

/** Promise 1, and wrong arguments of promises 5 to 11 on a new object. */
public final class FaceTest {
    public static void main(String[] args) {
        Due due = new Due();
        due.says("Nothing is shown, all SLOTS are empty, all MODELS are 128");
        VideoDecoder x = new VideoDecoder();
        for (int context = 0; context < 4; context++) {
            for (int k = 0; k < 2941; k++) {
                due.be("model " + context + ", " + k, x.model(context, k), 128);
            }
        }
        for (int slot = -1; slot < 8; slot++) {
            int s = slot;
            due.thrown("sample of slot " + s, NoSuchElementException.class, () -> x.sample(s, 0, 0, 0));
            due.thrown("sample of slot and plane " + s, NoSuchElementException.class, () -> x.sample(s, 3, -1, 0));
            due.thrown("check of slot " + s, NoSuchElementException.class, () -> x.check(s, 3));
            due.thrown("size of slot " + s, NoSuchElementException.class, () -> x.size(s, 2));
        }
        for (int what = 0; what < 7; what++) {
            due.be("count " + what, x.count(what), 0);
        }
        due.be("count 7", x.count(7), -1);
        due.be("count 8", x.count(8), -1);
        due.be("count -1", x.count(-1), -1);
        due.be("count least", x.count(Integer.MIN_VALUE), -1);
        due.be("fault 0", x.fault(0), 0);
        due.be("fault 1", x.fault(1), -1);
        due.thrown("fault 2", IllegalArgumentException.class, () -> x.fault(2));
        due.thrown("fault -1", IllegalArgumentException.class, () -> x.fault(-1));
        due.thrown("block without frame", IndexOutOfBoundsException.class, () -> x.block(0, 0, 17));
        due.thrown("model of context 4", IndexOutOfBoundsException.class, () -> x.model(4, 0));
        due.thrown("model of context -1", IndexOutOfBoundsException.class, () -> x.model(-1, 0));
        due.thrown("model 2941", IndexOutOfBoundsException.class, () -> x.model(0, 2941));
        due.thrown("model -1", IndexOutOfBoundsException.class, () -> x.model(3, -1));
        face(due);
        due.close("FaceTest");
    }

    private static void face(Due due) {
        due.says("The public face");
        String[] names = {"feed", "end", "decode", "fault", "sample", "check", "size", "model", "block", "count"};
        TreeSet<String> methods = new TreeSet<>();
        for (Method method : VideoDecoder.class.getDeclaredMethods()) {
            if (!Modifier.isPrivate(method.getModifiers())) {
                methods.add(method.getName());
            }
        }
        due.be("methods", methods.toString(), new TreeSet<>(Arrays.asList(names)).toString());
        for (Field field : VideoDecoder.class.getDeclaredFields()) {
            due.be("private " + field.getName(), Modifier.isPrivate(field.getModifiers()) ? 1 : 0, 1);
        }
        for (Class<?> inside : VideoDecoder.class.getDeclaredClasses()) {
            due.be("static " + inside.getName(), Modifier.isStatic(inside.getModifiers()) ? 1 : 0, 1);
        }
        due.be("final", Modifier.isFinal(VideoDecoder.class.getModifiers()) ? 1 : 0, 1);
    }
}
