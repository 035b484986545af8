import java.lang.reflect.Method;
import java.lang.reflect.Modifier;
import java.util.ArrayList;
import java.util.Comparator;
import java.util.List;
import java.util.Random;

/** Every call with numbers at and beyond all edges, in several states: it never throws, and answers as the Model. */
public final class ExtremesTest {
    private static final Check CHECK = new Check();
    private static final int[] NUMBERS = {Integer.MIN_VALUE, -1000001, -3, -2, -1, 0, 1, 2, 3, 4, 5, 6, 7, 8, 9, 10,
        20, 21, 40, 41, 255, 256, Integer.MAX_VALUE};
    private static final String[] TEXTS = {null, "w1,0;o;", "w4,1;oh;", "w2,3;ohgb;pab3,40;qcd2,20;rac5,60;sb1,9;",
        "w1,3;ohgb;pab3,40;qcd2,20;rac5,60;sb1,9;tda4,80;pabc2,12;"};

    public static void main(String[] args) throws Exception {
        List<Method> calls = new ArrayList<>();
        for (Method call : AlphaCourt.class.getDeclaredMethods()) {
            if (Modifier.isPublic(call.getModifiers())) {
                calls.add(call);
            }
        }
        calls.sort(Comparator.comparing(Method::getName));
        for (String text : TEXTS) {
            for (Method call : calls) {
                tryAll(text, call);
            }
        }
        CHECK.finish();
    }

    private static void tryAll(String text, Method call) throws Exception {
        AlphaCourt x = new AlphaCourt();
        Model m = new Model();
        prepare(text, x, m);
        Method same = Model.class.getDeclaredMethod(call.getName(), call.getParameterTypes());
        Random random = new Random(7);
        int arguments = call.getParameterCount();
        int times = arguments == 0 ? 2 : arguments == 1 ? NUMBERS.length : 450;
        for (int k = 0; k < times; k++) {
            Object[] numbers = new Object[arguments];
            StringBuilder told = new StringBuilder(call.getName());
            for (int a = 0; a < arguments; a++) {
                numbers[a] = arguments == 1 ? NUMBERS[k] : NUMBERS[random.nextInt(NUMBERS.length)];
                told.append(' ').append(numbers[a]);
            }
            CHECK.due(text + ": " + told, (Integer) call.invoke(x, numbers), (Integer) same.invoke(m, numbers));
        }
    }

    private static void prepare(String text, AlphaCourt x, Model m) {
        x.row(0, 0, 4);
        m.row(0, 0, 4);
        x.row(1, 1, 40);
        m.row(1, 1, 40);
        if (text == null) {
            return;
        }
        for (int i = 0; i < text.length(); i++) {
            x.feed(text.charAt(i));
            m.feed(text.charAt(i));
        }
        CHECK.due("court", x.court(), m.court());
        CHECK.due("image", x.image(1), m.image(1));
        CHECK.due("days", x.days(2), m.days(2));
    }
}
