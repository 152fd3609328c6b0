/** Counts the answers that are not as due, and tells towns. */
final class Check {
    private static final int NONE = -4;

    private int wrong = 0;
    private int asked = 0;

    void due(String call, long got, long want) {
        asked++;
        if (got != want) {
            wrong++;
            System.out.println(call + " answered " + got + ", due is " + want);
        }
    }

    void holds(String what, boolean so) {
        asked++;
        if (!so) {
            wrong++;
            System.out.println("does not hold: " + what);
        }
    }

    /** Feeds a text to an empty tape and tells it: what text() answers. */
    int say(DoorPaints x, String text) {
        for (int i = 0; i < text.length(); i++) {
            due("feed " + i + " of " + text, x.feed(text.charAt(i)), i + 1);
        }
        return x.text();
    }

    /** A new town as a sound text tells it. */
    DoorPaints town(String text) {
        DoorPaints x = new DoorPaints();
        int lines = (int) text.chars().filter(c -> c == ';').count();
        due("lines of " + text, say(x, text), lines);
        return x;
    }

    /** A new object that finds that FAULT in a text. */
    DoorPaints faulty(String text, int fault, int place) {
        DoorPaints x = new DoorPaints();
        due("text '" + text + "'", say(x, text), -10 - place);
        due("fault of '" + text + "'", x.fault(), fault);
        return x;
    }

    /** Just these LAYERS are on a DOOR, the lowest one first. */
    void layers(DoorPaints x, int d, int... want) {
        due("height of DOOR " + d, x.door(d, 0), want.length);
        for (int i = 0; i < 6; i++) {
            due("LAYER " + i + " of DOOR " + d, x.door(d, 10 + i), i < want.length ? want[i] : NONE);
        }
    }

    boolean failed() {
        return wrong > 0;
    }

    void finish() {
        System.out.println(wrong == 0 ? asked + " answers, all as due" : wrong + " of " + asked + " answers are not as due");
        if (wrong > 0) {
            System.exit(1);
        }
    }
}
