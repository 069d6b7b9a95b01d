/** RULES that act some two hundred times, one behind the other, from the one START that there is. */
final class LongWay {
    /** From START 0 with the way ahead: so many ACTS of the RULES of tell(). */
    static final int ACTS = 198;

    private LongWay() {
    }

    /**
     * x (t0.f0) runs from 0 to 6 and back, y (t1.f0) goes one on at each end of it, from 0 to 4 and back, z (t2.f0) at
     * each end of y, up to 4; d (t3.f0) tells the way of x and follows the parity of y and z. From x = 1: one ACT less
     * than ACTS; with d = 1 at first: one more.
     */
    static ThingPost ready(int x, int d) {
        ThingPost post = new ThingPost();
        int[] numbers = {x, 0, 0, d, 0, 0};
        for (int i = 0; i < 6; i++) {
            post.field(i, 0, numbers[i], numbers[i], 0);
            post.thing(i, 0);
        }
        return post;
    }

    /** The way ends with x = 6, y = 4 and z = 4. */
    static final String END = "t0.f0=6 and t1.f0=4 and t2.f0=4";

    /** Tells the eighteen RULES of the way. */
    static void tell(ThingPost post) {
        String yOdd = "[t1.f0=1or t1.f0=3]";
        String zOdd = "[t2.f0=1or t2.f0=3]";
        String odd = yOdd + "and not" + zOdd + "or not" + yOdd + "and" + zOdd;
        String end = "[t3.f0=0and t0.f0=6or t3.f0=1and t0.f0=0]";
        Check.rule(post, 0, "when " + odd + ":wish t3.f0=1");
        Check.rule(post, 0, "when not[" + odd + "]:wish t3.f0=0");
        for (int i = 0; i <= 6; i++) {
            Check.rule(post, 0, "when t3.f0=0 and t0.f0=" + (i - 1) + " or t3.f0=1 and t0.f0=" + (i + 1)
                + ":wish t0.f0=" + i);
        }
        for (int i = 0; i <= 4; i++) {
            Check.rule(post, 0, "when" + end + "and[not" + zOdd + "and t1.f0=" + (i - 1) + " or" + zOdd + "and t1.f0="
                + (i + 1) + "]:wish t1.f0=" + i);
        }
        for (int i = 1; i <= 4; i++) {
            Check.rule(post, 0, "when" + end + "and t2.f0=" + (i - 1) + ":wish t2.f0=" + i);
        }
    }
}
