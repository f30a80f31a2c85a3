import java.lang.reflect.InvocationTargetException;
import java.lang.reflect.Method;
import java.util.ArrayList;
import java.util.Comparator;
import java.util.List;
import java.util.Random;

/** Each method of the face with numbers at and far beyond every edge, against the Model. */
public final class ExtremeTest {
    private static final int[] EDGES = {Integer.MIN_VALUE, Integer.MIN_VALUE + 1, -65536, -257, -256, -255, -2, -1, 0, 1, 2,
        3, 4, 7, 8, 9, 15, 16, 17, 20, 21, 31, 32, 33, 49, 50, 51, 59, 60, 61, 63, 64, 65, 99, 100, 101, 191, 192, 193,
        223, 224, 225, 239, 240, 241, 252, 253, 254, 255, 256, 257, 65536, Integer.MAX_VALUE - 255, Integer.MAX_VALUE - 1,
        Integer.MAX_VALUE};

    private static final String[] TEXTS = {"",
        "at 240 packed -12 in 16;at 224 #20202121222220404b20f1f2f3f4f5f6;a:add 240:16 255:1;plus %1 -9999;on 15 a;",
        "guard 1 g;guard 4 g;at 0 packed 99 in 3;at 3 packed 7 in 2;edit 254%1:64 255%2;copy 0%3:64 192;g:div 0:3 3:2;"
            + "count %1 g;add 0%1:2 0:2;",
        "at 253 packed 99999 in 3;load %1 255%1;bin %2 248;dec %2 248;mark 200:32 240;shift 253:3 31 9;halt;"};

    private final Random random = new Random(77);
    private final List<Method> face = new ArrayList<>();
    private final NibbleEngine engine = new NibbleEngine();
    private final Model model = new Model();
    private int compared;

    public static void main(String[] args) throws ReflectiveOperationException {
        new ExtremeTest().run();
    }

    private void run() throws ReflectiveOperationException {
        for (Method method : NibbleEngine.class.getMethods()) {
            boolean ours = method.getDeclaringClass() == NibbleEngine.class;
            if (ours && !method.getName().equals("feed") && !method.getName().equals("program")) {
                face.add(method);
            }
        }
        face.sort(Comparator.comparing(Method::getName));
        for (int round = 0; round < 40; round++) {
            program(TEXTS[round % TEXTS.length]);
            for (int i = 0; i < 450; i++) {
                call(face.get(random.nextInt(face.size())));
            }
            extremeProgram();
        }
        System.out.println(compared + " answers compared");
        Check.end("ExtremeTest");
    }

    private void program(String text) {
        Check.feed(engine, text);
        for (int i = 0; i < text.length(); i += 20) {
            int[] numbers = new int[5];
            for (int j = 0; j < 20; j++) {
                numbers[j / 4] = numbers[j / 4] << 8 | (i + j < text.length() ? text.charAt(i + j) : 0);
            }
            model.feed(numbers);
        }
        Check.due("program " + text, model.program(text.length()), () -> engine.program(text.length()));
    }

    private void extremeProgram() throws ReflectiveOperationException {
        Method program = NibbleEngine.class.getMethod("program", int.class);
        for (int i = 0; i < 10; i++) {
            int edge = edge();
            if (edge != 0) {
                same(program, new Object[] {edge});
            }
        }
    }

    private int edge() {
        return random.nextInt(3) == 0 ? EDGES[random.nextInt(EDGES.length)] : random.nextInt(9) - 1;
    }

    private void call(Method method) throws ReflectiveOperationException {
        Class<?>[] types = method.getParameterTypes();
        Object[] given = new Object[types.length];
        for (int i = 0; i < types.length; i++) {
            given[i] = types[i] == boolean.class ? (Object) random.nextBoolean() : (Object) edge();
        }
        same(method, given);
    }

    private void same(Method method, Object[] given) throws ReflectiveOperationException {
        Method due = Model.class.getDeclaredMethod(method.getName(), method.getParameterTypes());
        String got = outcome(method, engine, given);
        String want = outcome(due, model, given);
        compared++;
        if (!got.equals(want)) {
            Check.tell(method.getName() + java.util.Arrays.toString(given) + " answered " + got + ", the model " + want);
        }
    }

    private static String outcome(Method method, Object object, Object[] given) throws ReflectiveOperationException {
        try {
            return String.valueOf(method.invoke(object, given));
        } catch (InvocationTargetException e) {
            Throwable thrown = e.getCause();
            // a 'throw' of the class stands in its own file; the machine would tell a text of its own
            if (object instanceof NibbleEngine && !thrown.getStackTrace()[0].getClassName().startsWith("NibbleEngine")) {
                return "from outside " + thrown;
            }
            return thrown.getClass().getName();
        }
    }
}
