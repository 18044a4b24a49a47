/** Objects with texts in them. */
final class Make {
    static final String FOUR = "9905;5007;5003;0409";

    private Make() {
    }

    static RichestPays with(String people, String rounds) {
        RichestPays x = new RichestPays();
        type(x, 0, people);
        type(x, 1, rounds);
        return x;
    }

    static void type(RichestPays x, int text, String bytes) {
        for (int i = 0; i < bytes.length(); i++) {
            x.type(text, bytes.charAt(i));
        }
    }

    static void retype(RichestPays x, int text, String bytes) {
        x.wipe(text);
        type(x, text, bytes);
    }

    /** A row of ints on a SHEET. */
    static void row(RichestPays x, int s, int... items) {
        row(x, s, items, items.length);
    }

    static void row(RichestPays x, int s, int[] items, int n) {
        x.sheet(s, 2, n);
        for (int i = 0; i < n; i++) {
            x.put(s, 2, i, items[i]);
        }
    }
}
