/** Counts and prints the answers of a test that are not the ones that are due. */
final class Due {
    private int checked = 0;
    private int wrong = 0;
    private String heading = "";

    void heading(String words) {
        heading = words;
    }

    void same(String call, long got, long due) {
        checked++;
        if (got != due) {
            wrong++;
            System.out.println(heading + ": " + call + " answered " + got + ", due is " + due);
        }
    }

    void same(String call, boolean got, boolean due) {
        same(call, got ? 1 : 0, due ? 1 : 0);
    }

    void same(String call, String got, String due) {
        checked++;
        if (!got.equals(due)) {
            wrong++;
            System.out.println(heading + ": " + call + " answered " + got + ", due is " + due);
        }
    }

    int wrong() {
        return wrong;
    }

    void end() {
        System.out.println(checked + " answers looked at, " + wrong + " not as due");
        if (wrong != 0) {
            System.exit(1);
        }
    }
}
