/** What the tests share: counting wrong answers, telling a land as a text. */
final class Checks {
    private int wrong = 0;
    private int right = 0;

    void due(String what, long got, long want) {
        if (got == want) {
            right++;
        } else {
            wrong++;
            System.out.println(what + " answered " + got + ", due is " + want);
        }
    }

    void isTrue(String what, boolean holds) {
        due(what, holds ? 1 : 0, 1);
    }

    /** 0 the element came; 1 IllegalArgumentException; 2 IllegalStateException; 3 anything else. */
    static int thrownByElement(AskNext x, int d, int i) {
        try {
            x.element(d, i);
            return 0;
        } catch (IllegalArgumentException e) {
            return e.getClass() == IllegalArgumentException.class ? 1 : 3;
        } catch (IllegalStateException e) {
            return e.getClass() == IllegalStateException.class ? 2 : 3;
        } catch (RuntimeException e) {
            return 3;
        }
    }

    static void text(AskNext x, int d, String text) {
        x.row(d, 0, text.length());
        for (int i = 0; i < text.length(); i++) {
            x.put(d, i, text.charAt(i));
        }
    }

    /** Tells a text by shelf 0. */
    static int tell(AskNext x, String text) {
        text(x, 0, text);
        return x.land(0);
    }

    static AskNext with(String... texts) {
        AskNext x = new AskNext();
        for (String text : texts) {
            int answer = tell(x, text);
            if (answer < 1) {
                throw new IllegalStateException(text + " answered " + answer);
            }
        }
        return x;
    }

    void end(String test) {
        System.out.println(test + ": " + right + " answers as due, " + wrong + " not");
        if (wrong != 0) {
            System.exit(1);
        }
    }
}
