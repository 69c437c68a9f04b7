/** Promises 19 and 20: keep, goBack. */
public final class ImagesTest {
    private static final int UNKNOWN = -1000000001, NOT = -1000000003, FULL = -1000000004;

    public static void main(String[] args) {
        keptAndBack();
        twoImages();
        keptAnew();
        imagesOutlastPanel();
        refusals();
        whatIsNotAsked();
        Due.end();
    }

    /** Changes all that can change. */
    private static void disturb(TouchPanel x) {
        x.bound(0, 33);
        x.bound(1, 22);
        x.bound(2, 11);
        x.bound(3, 2);
        x.drift(30, 4711);
        x.press(0, 0, 500);
        x.frame(3);
        x.lose(0);
    }

    private static void keptAndBack() {
        for (int i = 0; i <= 1; i++) {
            TouchPanel x = Due.used();
            int image = i;
            String was = Due.shown(x);
            Due.unchanged(Due::used, "keep(" + i + ")", y -> y.keep(image), 1);
            Due.due("keep(" + i + ")", x.keep(i), 1);
            for (int time = 0; time < 3; time++) {
                disturb(x);
                if (time == 1) {
                    x.panel(8, 3);
                }
                Due.holds("it was disturbed", !Due.shown(x).equals(was));
                Due.due("goBack(" + i + ")", x.goBack(i), 1);
                Due.holds("all is as it was kept", Due.shown(x).equals(was));
            }
            TouchPanel y = Due.used();
            disturb(x);
            x.goBack(i);
            disturb(x);
            disturb(y);
            Due.holds("it goes on as one that was never back", Due.shown(x).equals(Due.shown(y)));
        }
    }

    private static void twoImages() {
        TouchPanel x = Due.used();
        String first = Due.shown(x);
        x.keep(0);
        disturb(x);
        String second = Due.shown(x);
        x.keep(1);
        Due.due("back to 0", x.goBack(0), 1);
        Due.holds("IMAGE 0 is the first", Due.shown(x).equals(first));
        Due.due("back to 1, which was kept later", x.goBack(1), 1);
        Due.holds("IMAGE 1 is the second", Due.shown(x).equals(second));
    }

    private static void keptAnew() {
        TouchPanel x = Due.used();
        x.keep(0);
        disturb(x);
        String later = Due.shown(x);
        Due.due("keep(0) again", x.keep(0), 1);
        x.wipe();
        x.frame(5);
        x.goBack(0);
        Due.holds("the later one is kept", Due.shown(x).equals(later));
    }

    private static void imagesOutlastPanel() {
        TouchPanel x = Due.used();
        String was = Due.shown(x);
        x.keep(1);
        x.panel(2, 2);
        x.frame(1);
        Due.due("goBack(1) after panel", x.goBack(1), 1);
        Due.holds("rows and columns are as they were", Due.shown(x).equals(was));
    }

    private static TouchPanel oneKept() {
        TouchPanel x = Due.used();
        x.keep(1);
        disturb(x);
        return x;
    }

    private static void refusals() {
        Due.unchanged(Due::used, "goBack(0), not kept", x -> x.goBack(0), NOT);
        Due.unchanged(ImagesTest::oneKept, "goBack(0), 1 is kept", x -> x.goBack(0), NOT);
        TouchPanel asked = oneKept();
        for (int i : new int[] {-1, 2, 3, 32, 33, Integer.MIN_VALUE, Integer.MAX_VALUE}) {
            Due.unchanged(ImagesTest::oneKept, "keep(" + i + ")", x -> x.keep(i), UNKNOWN);
            Due.unchanged(ImagesTest::oneKept, "goBack(" + i + ")", x -> x.goBack(i), UNKNOWN);
            asked.keep(i);
            asked.goBack(i);
        }
        Due.due("goBack(0) is not kept by what was refused", asked.goBack(0), NOT);
        Due.due("goBack(1) is", asked.goBack(1), 1);
        Due.holds("IMAGE 1 is untouched", Due.shown(asked).equals(Due.shown(Due.used())));
    }

    /** The WAY at which STATE became 3 shows only later; FRAMES that are FULL are so no more. */
    private static void whatIsNotAsked() {
        TouchPanel x = new TouchPanel();
        x.panel(2, 8);
        x.bound(3, 0);
        x.set(0, 2, 50);
        x.set(0, 5, 50);
        Due.due("WAY 3", x.frame(1), 3);
        x.keep(0);
        x.panel(2, 8);
        x.set(0, 0, 50);
        x.set(0, 7, 50);
        Due.due("WAY 7", x.frame(1), 3);
        x.goBack(0);
        x.set(0, 2, 0);
        x.set(0, 3, 50);
        Due.due("WAY 2, 1 less than when kept", x.frame(1), 3);
        x.wipe();
        x.set(0, 1, 50);
        x.set(0, 6, 50);
        Due.due("WAY 5, 2 more than when kept", x.frame(1), 4);
        x.goBack(0);
        x.keep(1);
        for (int i = 0; i < 301; i++) {
            x.frame(30);
        }
        Due.due("FULL", x.frame(1), FULL);
        x.goBack(1);
        Due.due("back, not FULL", x.frame(1), 3);
    }
}
