/** Counts the answers of one test that are not as due; what the project's tests share. */
final class Due {
    private final String test;
    private int asked;
    private int wrong;

    Due(String test) {
        this.test = test;
    }

    void is(String call, long want, long got) {
        asked++;
        if (want != got) {
            wrong++;
            if (wrong <= 40) {
                System.out.println(test + ": " + call + " answered " + got + ", due is " + want);
            }
        }
    }

    void holds(String what, boolean does) {
        is(what, 1, does ? 1 : 0);
    }

    boolean isWrong() {
        return wrong > 0;
    }

    void close() {
        System.out.println(test + ": " + asked + " answers, " + wrong + " not as due");
        if (wrong > 0 || asked == 0) {
            System.exit(1);
        }
    }

    static void write(OneSkate skate, String text) {
        for (int i = 0; i < text.length(); i++) {
            skate.write(1, text.charAt(i));
        }
    }

    /** A new object whose town is told by this text. */
    static OneSkate townOf(String text) {
        OneSkate skate = new OneSkate();
        write(skate, text);
        if (skate.town() < 0) {
            throw new IllegalStateException("no town: " + text);
        }
        return skate;
    }
}
