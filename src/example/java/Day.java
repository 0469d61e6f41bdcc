/** One day of an assize: a town is told by texts, a day goes by, and all that was found is printed. */
public final class Day {
    private static final String[] STATES = {"waits", "is freed", "is hanged", "is undone"};

    private Day() {
    }

    public static void main(String[] args) {
        HungryBench x = new HungryBench();
        tape(x, "judge mercy 10 nerve 0 hunger 30; judge mercy 40 nerve 2; case b grave 45 worth 8; case a grave 60 worth 5 on 0;"
                + " case f grave 20; list 0 6 0; list 1 8 1; list 0 9 2; inn 9 60");
        x.assize();
        tape(x, "move 15 if precedent or late and hunger > 35; harden 5 if kind > 2");
        x.law();
        System.out.println("in hour 6 case 0 would have a point of " + x.would(0, 0, 6));
        System.out.println("cases heard: " + x.hours(12));
        for (int c = 0; c < x.count(1); c++) {
            System.out.println("case " + c + " " + STATES[x.cause(c, 4)] + ", by judge " + x.cause(c, 5));
        }
    }

    /** Puts a text on the tape, in place of what is there: twenty bytes a call, of each number the highest first. */
    private static void tape(HungryBench x, String text) {
        x.end(0);
        for (int i = 0; i < text.length(); i += 20) {
            int[] n = new int[5];
            for (int k = 0; k < 20; k++) {
                n[k / 4] = n[k / 4] << 8 | (i + k < text.length() ? text.charAt(i + k) : 0);
            }
            x.feed(n[0], n[1], n[2], n[3], n[4]);
        }
        x.end(text.length());
    }
}
