/** What the tests share: which answer is due, and seas told in a TEXT. */
abstract class Seas {
    static final int BAD = -1, NO = -2, FULL = -3, NONE = -4;
    /** A THING of WEIGHT 5 sinks to LEVEL 6, then goes between 6 and 7, a PLACE on each 2 STEPS: no way is longer. */
    static final String LONG_WAY = "n24;" + "l3,0,1;".repeat(6) + "l4,4,1;l3,6,1;";
    private static int wrong = 0;
    private static String tested = "";

    /** What is tested from here on: a promise, or a sentence of the document. */
    static void of(String words) {
        tested = words;
    }

    static void due(String call, long got, long want) {
        if (got == want) return;
        wrong++;
        System.out.println(tested + ": " + call + " answered " + got + ", due is " + want);
    }

    static void write(HungFromIce x, String text) {
        x.wipe();
        for (int i = 0; i < text.length(); i++) due("write of " + text.charAt(i), x.write(text.charAt(i)), i + 1);
    }

    static HungFromIce written(String text) {
        HungFromIce x = new HungFromIce();
        write(x, text);
        return x;
    }

    static HungFromIce sea(String text) {
        HungFromIce x = written(text);
        if (x.lay() < 1) due("lay of " + text, NO, 1);
        return x;
    }

    static void faultOf(String text, int want) {
        HungFromIce x = written(text);
        due("fault of " + text, x.fault(), want);
        due("fault again of " + text, x.fault(), want);
    }

    /** LEVEL and PLACE of a THING in one number. */
    static int spot(HungFromIce x, int g) {
        return 100 * x.thing(g, 0) + x.thing(g, 1);
    }

    static void movedTo(HungFromIce x, int b, int many, int one, int two) {
        due("moved " + b + " 0", x.moved(b, 0), many);
        due("moved " + b + " 1", x.moved(b, 1), one);
        due("moved " + b + " 2", x.moved(b, 2), two);
    }

    static long commonDivisor(long a, long b) {
        return b == 0 ? a : commonDivisor(b, a % b);
    }

    static void end(String allIsWell) {
        System.out.println(wrong == 0 ? allIsWell : wrong + " answers are not as due");
        if (wrong != 0) System.exit(1);
    }
}
