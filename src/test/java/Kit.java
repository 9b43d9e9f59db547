import java.util.NoSuchElementException;

/** What the tests share: feeding texts, and counting answers that are not the ones due. */
final class Kit {
    private static int right = 0;
    private static int wrong = 0;

    // A call that does not end is a wrong answer, too.
    private static final long LONGEST_MILLISECONDS = 300000;

    static {
        Thread watch = new Thread(Kit::stopTooLong);
        watch.setDaemon(true);
        watch.start();
    }

    private Kit() {
    }

    private static void stopTooLong() {
        try {
            Thread.sleep(LONGEST_MILLISECONDS);
        } catch (InterruptedException e) {
            return;
        }
        System.out.println("a call has not ended in time");
        Runtime.getRuntime().halt(1);
    }

    interface Call {
        long answer();
    }

    static void due(String what, long got, long want) {
        if (got == want) {
            right++;
            return;
        }
        wrong++;
        System.out.println(what + " answered " + got + ", due is " + want);
    }

    static void due(String what, String got, String want) {
        if (got.equals(want)) {
            right++;
            return;
        }
        wrong++;
        System.out.println(what + " answered " + got + ", due is " + want);
    }

    static void element(String what, Call call) {
        thrown(what, call, NoSuchElementException.class);
    }

    static void argument(String what, Call call) {
        thrown(what, call, IllegalArgumentException.class);
    }

    static void state(String what, Call call) {
        thrown(what, call, IllegalStateException.class);
    }

    private static void thrown(String what, Call call, Class<?> want) {
        String got;
        try {
            got = Long.toString(call.answer());
        } catch (RuntimeException e) {
            got = e.getClass().getName();
        }
        if (got.equals(want.getName())) {
            right++;
            return;
        }
        wrong++;
        System.out.println(what + " answered " + got + ", due is " + want.getName());
    }

    /** Feeds a text, zeros behind it up to the twenty: how many bytes it has. */
    static int feed(DipLights x, String text) {
        for (int i = 0; i < text.length(); i += 20) {
            x.feed(four(text, i), four(text, i + 4), four(text, i + 8), four(text, i + 12), four(text, i + 16));
        }
        return text.length();
    }

    static int four(String text, int from) {
        int number = 0;
        for (int i = from; i < from + 4; i++) {
            number = number << 8 | (i < text.length() ? text.charAt(i) & 255 : 0);
        }
        return number;
    }

    static int road(DipLights x, String text) {
        return x.road(feed(x, text));
    }

    static int law(DipLights x, String text) {
        return x.law(feed(x, text));
    }

    static int rule(DipLights x, int car, String text) {
        return x.rule(car, feed(x, text));
    }

    static int book(DipLights x, String text) {
        return x.book(feed(x, text));
    }

    static DipLights onRoad(String text) {
        DipLights x = new DipLights();
        road(x, text);
        return x;
    }

    static void end(String name) {
        System.out.println(name + ": " + right + " answers as due, " + wrong + " not");
        if (wrong != 0) {
            System.exit(1);
        }
    }
}
