/** Promises 16 to 19: MONDAYS. */
public final class MondaysTest {
    public static void main(String[] args) {
        monday();
        mondayRefused();
        hung();
        told();
        back();
        Check.end();
    }

    private static void monday() {
        WashLine w = Check.world("k-");
        w.row(0, 8);
        for (int x = 0; x < 8; x++) {
            w.lay(0, x, 5 * x + 5);
        }
        Check.due("16 monday", w.monday(1, 0, 9), 0);
        w.lay(0, 3, 0);
        Check.due("16 monday", w.monday(0, 0, 0), 1);
        Check.due("16 count", w.count(1), 2);
        int[] due = {1, 9, 5, 10, 15, 20, 25, 30, 35, 40};
        for (int what = 0; what < 10; what++) {
            Check.due(w, "18 told(0, " + what + ")", w.told(0, what), 1, due[what]);
        }
        Check.due(w, "18 told(1, 0)", w.told(1, 0), 1, 0);
        Check.due(w, "18 told(1, 1)", w.told(1, 1), 1, 0);
        Check.due(w, "18 told(1, 5)", w.told(1, 5), 1, 0);
        Check.due(w, "18 told(1, 6)", w.told(1, 6), 1, 25);
        for (int m = 2; m < 12; m++) {
            Check.due("16 monday", w.monday(0, 0, 0), m);
        }
        Check.due("16 a thirteenth", w.monday(0, 0, 0), WashLine.FULL);
        Check.due("16 count", w.count(1), 12);
    }

    private static void mondayRefused() {
        WashLine w = Check.world("k-");
        Check.due("16 weather 2", w.monday(2, 0, 0), -1);
        Check.due("16 weather -1", w.monday(-1, 0, 0), -1);
        Check.due("16 row 6", w.monday(0, 6, 0), -1);
        Check.due("16 row -1", w.monday(0, -1, 0), -1);
        Check.due("16 doubt 10", w.monday(0, 0, 10), -1);
        Check.due("16 doubt -1", w.monday(0, 0, -1), -1);
        Check.finds(w, "16 missing", 0, w.monday(0, 0, 0), 1);
        w.row(0, 7);
        w.lay(0, 0, -1);
        Check.finds(w, "16 seven", 0, w.monday(0, 0, 0), 5);
        w.row(0, 9);
        Check.finds(w, "16 nine", 1, w.monday(0, 0, 0), 5);
        w.row(0, 8);
        w.lay(0, 7, 41);
        Check.finds(w, "16 a number 41", 0, w.monday(0, 0, 0), 3);
        w.lay(0, 7, -1);
        Check.finds(w, "16 a number -1", 1, w.monday(0, 0, 0), 3);
        w.row(0, 8);
        w.lay(0, 0, 41);
        Check.finds(w, "16 a number 41 at first", 2, w.monday(0, 0, 0), 3);
        w.lay(0, 0, 0);
        Check.due("16 none are there", w.count(1), 0);
        w.lay(0, 7, 40);
        for (int m = 0; m < 12; m++) {
            Check.due("16 monday", w.monday(0, 0, 0), m);
        }
        w.lay(0, 7, 41);
        Check.finds(w, "16 UNLIKE ahead of FULL", 3, w.monday(0, 0, 0), 3);
        w.row(0, 0);
        Check.finds(w, "16 SIZE ahead of FULL", 2, w.monday(0, 0, 0), 5);
        Check.finds(w, "16 NOTHING ahead of FULL", 1, w.monday(0, 1, 0), 1);
        Check.due("16 BAD ahead of FULL", w.monday(2, 0, 0), -1);
    }

    private static void hung() {
        WashLine w = Check.world("k-w0t2:1-1");
        Check.monday(w, 0, 0, 0, 0, 1);
        Check.monday(w, 0, 0, 0, 0, 1);
        Check.due("17 plain ahead", w.plain(), 3);
        Check.due("17 hung", w.hung(1, 2, 2), 1);
        Check.due("17 hung", w.hung(1, 2, 2), 2);
        Check.due("17 plain behind", w.plain(), 5);
        Check.due("17 hung", w.hung(1, 7, 40), 0);
        Check.due("17 hung", w.hung(1, 7, 0), 40);
        Check.due("17 plain still", w.plain(), 5);
        Check.due("17 the other stays", w.hung(0, 2, 1), 1);
        Check.due("17 hung(2)", w.hung(2, 0, 0), -1);
        Check.due("17 hung(-1)", w.hung(-1, 0, 0), -1);
        Check.due("17 thing 8", w.hung(0, 8, 0), -1);
        Check.due("17 thing -1", w.hung(0, -1, 0), -1);
        Check.due("17 41", w.hung(0, 0, 41), -1);
        Check.due("17 -1", w.hung(0, 0, -1), -1);
    }

    private static void told() {
        WashLine w = Check.world("k-");
        Check.due(w, "18 told(0, 0)", w.told(0, 0), -1, 0);
        Check.monday(w, 1, 3, 4);
        Check.due(w, "18 told(0, 2)", w.told(0, 2), 1, 4);
        Check.due(w, "18 told(0, 10)", w.told(0, 10), -1, 4);
        Check.due(w, "18 told(0, -1)", w.told(0, -1), -1, 4);
        Check.due(w, "18 told(1, 0)", w.told(1, 0), -1, 4);
        Check.due(w, "18 told(-1, 0)", w.told(-1, 0), -1, 4);
        Check.due(w, "18 told(0, 1)", w.told(0, 1), 1, 3);
    }

    private static void back() {
        WashLine w = Check.world("k-w0t0:1-1");
        for (int m = 0; m < 4; m++) {
            Check.monday(w, 0, 0, m);
        }
        w.happen(2, 1, 0, 0);
        Check.due("19 back(5)", w.back(5), -1);
        Check.due("19 back(-1)", w.back(-1), -1);
        Check.due("19 back(4)", w.back(4), 0);
        Check.due("19 plain ahead", w.plain(), 8);
        Check.due("19 back(2)", w.back(2), 2);
        Check.due("19 plain", w.plain(), 2);
        Check.due("19 count", w.count(1), 2);
        Check.due("19 told", w.told(2, 0), -1);
        Check.due("19 happenings stay", w.count(2), 1);
        Check.due("19 monday", Check.monday(w, 0, 0, 5), 2);
        Check.due("19 back(0)", w.back(0), 3);
        Check.due("19 plain", w.plain(), 0);
        Check.due("19 back(0)", w.back(0), 0);
    }
}
