import java.lang.reflect.Method;

/** Makes calls whose names and numbers are data, on RingShadow or on a model of it. */
final class Calls {
    private Calls() { }

    /** A call as it is written, such as "next(0, MAX, true)" or "say('a')"; MIN and MAX are the ends of int. */
    static long ask(Object ring, String call) {
        int open = call.indexOf('(');
        String inside = call.substring(open + 1, call.length() - 1);
        String[] words = inside.isEmpty() ? new String[0] : inside.split(", ");
        int[] numbers = new int[words.length];
        for (int i = 0; i < words.length; i++) {
            numbers[i] = number(words[i]);
        }
        return ask(ring, call.substring(0, open), numbers);
    }

    private static int number(String word) {
        switch (word) {
            case "MIN": return Integer.MIN_VALUE;
            case "MAX": return Integer.MAX_VALUE;
            case "true": return 1;
            case "false": return 0;
            default: return word.startsWith("'") ? word.charAt(1) : Integer.parseInt(word);
        }
    }

    static long ask(Object ring, String name, int[] numbers) {
        for (Method method : ring.getClass().getDeclaredMethods()) {
            if (method.getName().equals(name) && method.getParameterCount() == numbers.length) {
                return answer(ring, method, numbers);
            }
        }
        throw new IllegalStateException("no call " + name);
    }

    private static long answer(Object ring, Method method, int[] numbers) {
        Object[] values = new Object[numbers.length];
        for (int i = 0; i < numbers.length; i++) {
            boolean isFlag = method.getParameterTypes()[i] == boolean.class;
            values[i] = isFlag ? (Object) (numbers[i] == 1) : (Object) numbers[i];
        }
        try {
            return ((Number) method.invoke(ring, values)).longValue();
        } catch (ReflectiveOperationException e) {
            throw new IllegalStateException(method.getName() + " threw", e);
        }
    }
}
