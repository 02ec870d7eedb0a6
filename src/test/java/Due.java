/** What a test of one class has found: prints each answer that is not the one due. */
final class Due {
    private static int wrong = 0;
    private static int looked = 0;

    private Due() { }

    static void is(String what, long got, long want) {
        looked++;
        if (got == want) return;
        wrong++;
        System.out.println(what + " answered " + got + ", due is " + want);
    }

    static void end() {
        System.out.println(looked + " answers, " + wrong + " not as due");
        if (wrong != 0 || looked == 0) System.exit(1);
    }

    /** Wipes and writes a whole text. */
    static void tell(PlatformsLeave x, String text) {
        x.wipe();
        for (int i = 0; i < text.length(); i++) x.write(text.charAt(i));
    }

    static PlatformsLeave laid(String text) {
        PlatformsLeave x = new PlatformsLeave();
        tell(x, text);
        if (x.lay() < 1) is("lay() of " + text, x.fault(), PlatformsLeave.NONE);
        return x;
    }
}
