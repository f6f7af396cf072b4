/** What the tests share: telling what is not as due, and naming what a call throws. */
final class Check {
    /** A call that answers a number (a boolean counts 1 or 0, a sign its code). */
    interface Call {
        long run();
    }

    private static final long FIRST = 88172645463325252L;
    private int wrong = 0;
    private int checked = 0;
    private long state = FIRST;

    void due(String what, long got, long want) {
        checked++;
        if (got != want) {
            fail(what + " answered " + got + ", due is " + want);
        }
    }

    void due(String what, String got, String want) {
        checked++;
        if (!got.equals(want)) {
            fail(what + " answered " + got + ", due is " + want);
        }
    }

    void yes(String what, boolean holds) {
        checked++;
        if (!holds) {
            fail(what + " does not hold");
        }
    }

    /** The call is to throw just this class, and to leave the yard as it was. */
    void refused(String what, Latticeyard yard, Class<? extends RuntimeException> due, Call call) {
        String before = textOf(yard) + yard.checksum();
        due(what, answerOf(call), due.getSimpleName());
        due(what + ", state behind it", textOf(yard) + yard.checksum(), before);
    }

    private void fail(String line) {
        wrong++;
        if (wrong <= 40) {
            System.out.println(line);
        }
    }

    void end() {
        System.out.println(checked + " checks, " + wrong + " wrong");
        if (wrong != 0 || checked == 0) {
            System.exit(1);
        }
    }

    static String answerOf(Call call) {
        try {
            return Long.toString(call.run());
        } catch (RuntimeException thrown) {
            return thrown.getClass().getSimpleName();
        }
    }

    static String textOf(Latticeyard yard) {
        StringBuilder text = new StringBuilder();
        for (int place = 0; place < 100; place++) {
            try {
                text.append(yard.signAt(place));
            } catch (IndexOutOfBoundsException end) {
                return text.toString();
            }
        }
        return text.toString();
    }

    /** The same row of numbers in each run: from least to greatest, both with. */
    int draw(int least, int greatest) {
        state ^= state << 13;
        state ^= state >>> 7;
        state ^= state << 17;
        return least + (int) Math.floorMod(state, (long) greatest - least + 1);
    }
}
