import java.lang.reflect.Method;
import java.util.ArrayList;
import java.util.Comparator;
import java.util.List;
import java.util.Random;

/** No call throws: wild numbers in every place, heaps of TOKENS as texts, and the same calls answer the same again. */
public final class WildTest extends Kit {
    private static final int[] ODD = {Integer.MIN_VALUE, Integer.MIN_VALUE + 1, -10000, -9999, -241, -61, -2, -1, 0, 1, 2, 3, 4, 5,
        6, 7, 8, 9, 10, 19, 20, 21, 39, 40, 59, 60, 61, 239, 240, 241, 400, 511, 512, 999, 1000, 9999, 10000, 1 << 20,
        1 << 30, Integer.MAX_VALUE - 1, Integer.MAX_VALUE};
    private static final String[] TOKENS = ("block end sheet rules lay at from for gain speed stem fade to dip under by hold taps of clip"
        + " use mark right if loud in or and not seconds owner land frames heard ; , + - * / == != < <= ( ) = ! a b zzzzzzzz 0 1 2 3"
        + " 60 400 9999 10000 # A").split(" ");
    private static final String[] STARTS = {"", "sheet ", "rules right ", "rules right 1 if ", "block a ", "sheet lay 0 at ",
        "rules loud 1 in 1; ", "block a clip 1; end sheet use a at 0; "};

    public static void main(String[] args) throws Exception {
        List<Method> methods = new ArrayList<>();
        for (Method method : MixStage.class.getDeclaredMethods()) {
            if (java.lang.reflect.Modifier.isPublic(method.getModifiers())) {
                methods.add(method);
            }
        }
        methods.sort(Comparator.comparing(Method::getName));
        int wrong = methods.size() == 37 ? 0 : 1;
        for (int seed = 0; seed < 1500; seed++) {
            String trail = "";
            try {
                long once = run(methods, new Random(seed));
                long again = run(methods, new Random(seed));
                if (once != again) {
                    trail = "the same calls answer otherwise";
                }
            } catch (java.lang.reflect.InvocationTargetException thrown) {
                trail = "threw " + thrown.getCause();
                thrown.getCause().printStackTrace(System.out);
            }
            if (!trail.isEmpty()) {
                wrong++;
                System.out.println("seed " + seed + ": " + trail);
            }
        }
        System.out.println("wild: " + methods.size() + " methods, " + wrong + " wrong");
        System.exit(wrong == 0 ? 0 : 1);
    }

    private static long run(List<Method> methods, Random r) throws Exception {
        MixStage x = new MixStage();
        long sum = 0;
        for (int call = 0; call < 512; call++) {
            if (r.nextInt(12) == 0) {
                StringBuilder text = new StringBuilder(STARTS[r.nextInt(STARTS.length)]);
                int n = r.nextInt(r.nextInt(10) == 0 ? 400 : 30);
                for (int i = 0; i < n; i++) {
                    text.append(TOKENS[r.nextInt(TOKENS.length)]).append(r.nextInt(5) == 0 ? "" : " ");
                }
                text.append(r.nextInt(2) == 0 ? "end" : "");
                feed(x, text.toString());
                sum = sum * 31 + x.read();
                continue;
            }
            Method method = methods.get(r.nextInt(methods.size()));
            Object[] values = new Object[method.getParameterCount()];
            for (int i = 0; i < values.length; i++) {
                values[i] = r.nextInt(3) == 0 ? ODD[r.nextInt(ODD.length)] : r.nextInt(8);
            }
            Object answer = method.invoke(x, values);
            sum = sum * 31 + answer.hashCode();
        }
        return sum;
    }
}
