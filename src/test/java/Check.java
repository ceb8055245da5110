import java.util.function.LongSupplier;

/** Counts the answers that are not due; types texts onto THE PAGE. */
final class Check {
    private int wrong;
    private String sentence = "";

    /** What follows holds this sentence of the document. */
    void of(String words) {
        sentence = "'" + words + "': ";
    }

    void due(String call, long got, long want) {
        if (got != want) {
            wrong++;
            System.out.println(sentence + call + " answered " + got + ", due is " + want);
        }
    }

    /** A refusal answers its number and leaves all that digest() tells as it was. */
    void refused(String call, MoleMaps x, long want, LongSupplier asked) {
        long before = x.digest();
        due(call, asked.getAsLong(), want);
        due("digest() after refused " + call, x.digest(), before);
    }

    void end(String test) {
        System.out.println(test + ": " + (wrong == 0 ? "all answers are as due" : wrong + " answers are not as due"));
        if (wrong != 0) {
            System.exit(1);
        }
    }

    static long letters(String text) {
        long w = 0;
        for (int i = 0; i < text.length(); i++) {
            w |= (long) text.charAt(i) << 8 * i;
        }
        return w;
    }

    static int type(MoleMaps x, String text) {
        int has = x.letters(0);
        for (int at = 0; at < text.length(); at += 8) {
            has = x.letters(letters(text.substring(at, Math.min(text.length(), at + 8))));
        }
        return has;
    }

    static MoleMaps mineOf(String text) {
        MoleMaps x = new MoleMaps();
        type(x, text);
        if (x.mine() < 0) {
            throw new IllegalStateException("no mine: " + text);
        }
        return x;
    }
}
