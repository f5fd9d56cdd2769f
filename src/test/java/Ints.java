import java.util.ArrayList;
import java.util.List;

/** Arguments on both sides of a range's ends. */
final class Ints {
    private static final int[] FAR = {4, 8, 16, 64, 256, 1 << 12, 1 << 16, 1 << 24, 1 << 28, 1 << 30};

    private Ints() {
    }

    /** Numbers beyond a range: next to it, far away, the least and the greatest, and some that masks or sums could bring back into it. */
    static List<Integer> beyond(int least, int most) {
        List<Integer> numbers = new ArrayList<>(below(least));
        numbers.add(most + 1);
        numbers.add(most + 2);
        for (int far : FAR) {
            numbers.add(most + far);
            numbers.add(Integer.MIN_VALUE + most + far);
        }
        numbers.add(Integer.MAX_VALUE - 1);
        numbers.add(Integer.MAX_VALUE);
        return numbers;
    }

    /** Numbers below the least one of a range. */
    static List<Integer> below(int least) {
        List<Integer> numbers = new ArrayList<>();
        numbers.add(least - 1);
        numbers.add(least - 2);
        for (int far : FAR) {
            numbers.add(least - far);
        }
        numbers.add(Integer.MIN_VALUE);
        numbers.add(Integer.MIN_VALUE + 1);
        return numbers;
    }

    static String call(String name, int... arguments) {
        StringBuilder text = new StringBuilder(name).append('(');
        for (int i = 0; i < arguments.length; i++) {
            text.append(i == 0 ? "" : ", ").append(arguments[i]);
        }
        return text.append(')').toString();
    }
}
