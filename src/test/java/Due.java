import java.lang.reflect.Method;
import java.lang.reflect.Modifier;
import java.util.HashMap;
import java.util.Map;

/** What the tests by hand share: which promise is asked, which answers were wrong, runs of calls, TEXTS for the TAPE. */
abstract class Due {
    private static final Map<String, Method> FACE = new HashMap<>();
    private static int wrong = 0;
    private static int promise = 0;
    private static String sentence = "";

    static {
        for (Method method : RedGlass.class.getDeclaredMethods()) {
            if (Modifier.isPublic(method.getModifiers())) {
                FACE.put(method.getName(), method);
            }
        }
    }

    /** What is asked from here on: a promise, and the words of the document that say it. */
    static void promise(int number, String words) {
        promise = number;
        sentence = words;
    }

    static void due(String call, long got, long want) {
        if (got != want) {
            wrong++;
            System.out.println("promise " + promise + (sentence.isEmpty() ? "" : " (" + sentence + ")") + ": " + call
                + " answered " + got + ", due is " + want);
        }
    }

    /** Makes calls one behind another, as "storm(3,1)=0 count(1)=1"; an answer without "=" is free. */
    static RedGlass calls(RedGlass x, String calls) {
        for (String text : calls.trim().split(" +")) {
            int sign = text.indexOf('=');
            long got = answer(x, sign < 0 ? text : text.substring(0, sign));
            if (sign >= 0) {
                due(text.substring(0, sign) + " in '" + calls + "'", got, Long.parseLong(text.substring(sign + 1)));
            }
        }
        return x;
    }

    static RedGlass calls(String calls) {
        return calls(new RedGlass(), calls);
    }

    /** What a call answers that is told as "storm(3,1)". */
    static long answer(RedGlass x, String call) {
        int open = call.indexOf('(');
        String numbers = call.substring(open + 1, call.length() - 1);
        String[] words = numbers.isEmpty() ? new String[0] : numbers.split(",");
        Object[] args = new Object[words.length];
        for (int i = 0; i < words.length; i++) {
            args[i] = Integer.valueOf(words[i]);
        }
        try {
            return ((Number) FACE.get(call.substring(0, open)).invoke(x, args)).longValue();
        } catch (ReflectiveOperationException e) {
            due(call + ", which threw " + e.getCause() + ",", Long.MIN_VALUE, 0);
            return Long.MIN_VALUE;
        }
    }

    /** Puts a text behind the TAPE. */
    static RedGlass write(RedGlass x, String text) {
        int before = x.count(7);
        for (int i = 0; i < text.length(); i += 20) {
            int[] five = new int[5];
            for (int j = 0; j < 20; j++) {
                int sign = i + j < text.length() ? text.charAt(i + j) : ' ';
                five[j / 4] = five[j / 4] << 8 | sign;
            }
            x.feed(five[0], five[1], five[2], five[3], five[4]);
        }
        due("end behind '" + text + "'", x.end(before + text.length()), before + text.length());
        return x;
    }

    static RedGlass under(String law) {
        RedGlass x = new RedGlass();
        write(x, law);
        due("law() of '" + law + "'", x.law(), 0);
        due("force(0)", x.force(0), -1);
        return x;
    }

    static RedGlass under(String law, int rocks) {
        RedGlass x = under(law);
        x.terms(0, rocks);
        return x;
    }

    /** STORMS in all NIGHTS but some. */
    static RedGlass stormAllBut(RedGlass x, int... calm) {
        for (int night = 0; night < 60; night++) {
            x.storm(night, 1);
        }
        for (int night : calm) {
            x.storm(night, 0);
        }
        return x;
    }

    /** Asks a call with one number open, here "?". */
    static void asked(RedGlass x, String call, long number, long want) {
        calls(x, call.replace("?", Long.toString(number)) + "=" + want);
    }

    static void good(String text) {
        RedGlass x = write(new RedGlass(), text);
        due("law() of '" + text + "'", x.law(), 0);
        due("fault() of '" + text + "'", x.fault(), -1);
        due("count(7)", x.count(7), 0);
    }

    static void faulty(String text, int place) {
        RedGlass x = write(new RedGlass(), text);
        due("law() of '" + text + "'", x.law(), -6);
        due("fault() of '" + text + "'", x.fault(), place);
        due("count(7)", x.count(7), 0);
        due("count(2)", x.count(2), 0);
    }

    static void end() {
        System.out.println(wrong == 0 ? "all answers are as due" : wrong + " answers are not as due");
        if (wrong != 0) {
            System.exit(1);
        }
    }
}
