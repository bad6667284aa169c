import java.io.IOException;
import java.nio.file.Files;
import java.nio.file.Path;
import java.util.ArrayList;
import java.util.List;
import java.util.function.Supplier;
import java.util.function.ToIntFunction;

/**
 * Tests of single sentences of the document: each one names its promise and holds the words as they stand in
 * ../shared/DOC.md. Words that do not stand there, and words there that no test holds, are failures, too.
 */
class Sentences extends Calls {
    static final String TERMS = "## Terms";
    private static final String DOCUMENT = document();

    private static final boolean[] held = new boolean[DOCUMENT.length()];
    private static int passed = 0;
    private static int failed = 0;
    private static int checks = 0;
    private static int wrong = 0;
    private static String name = "";

    private static String document() {
        Path path = Path.of("../shared/DOC.md");
        if (!Files.exists(path)) {
            System.out.println("no " + path + ": the words of the sentences are not looked up");
            return "";
        }
        try {
            return Files.readString(path).replaceAll("(?m)^```.*$", "").replaceAll("\\s+", " ");
        } catch (IOException e) {
            throw new IllegalStateException(e);
        }
    }

    /** A sentence of the section of a promise. */
    static void promise(int promise, String words, Runnable test) {
        sentence(promise, "## Promise " + promise + ":", words, test);
    }

    /** A sentence of the terms that a promise rests on. */
    static void terms(int promise, String words, Runnable test) {
        sentence(promise, TERMS, words, test);
    }

    static void sentence(int promise, String section, String words, Runnable test) {
        name = "promise " + promise + ", \"" + words + "\"";
        checks = 0;
        wrong = 0;
        hold(section, words);
        test.run();
        if (checks == 0) fault("nothing was looked at");
        if (wrong == 0) passed++;
        else failed++;
    }

    private static void hold(String section, String words) {
        if (DOCUMENT.isEmpty()) return;
        int from = DOCUMENT.indexOf(section + (section.endsWith(":") ? "" : " "));
        int to = from < 0 ? -1 : end(from);
        int at = from < 0 ? -1 : DOCUMENT.indexOf(words, from);
        if (at < 0 || at + words.length() > to) {
            fault("the words are not in the section " + section);
            return;
        }
        for (int i = at; i < at + words.length(); i++) held[i] = true;
    }

    private static int end(int from) {
        int next = DOCUMENT.indexOf(" ## ", from);
        return next < 0 ? DOCUMENT.length() : next;
    }

    private static void fault(String what) {
        wrong++;
        System.out.println(name + ": " + what);
    }

    static void due(String call, int got, int want) {
        checks++;
        if (got != want) fault(call + " answered " + got + ", due is " + want);
    }

    /** All words between two places of the document must be held by tests. */
    static void allHeld(String first, String last) {
        if (DOCUMENT.isEmpty()) return;
        int from = DOCUMENT.indexOf(first);
        int to = DOCUMENT.indexOf(last, Math.max(from, 0));
        name = "\"" + first + " .. " + last + "\"";
        wrong = 0;
        wholeIsHeld(from, from < 0 || to < 0 ? -1 : to + last.length());
    }

    /** All words of a promise behind the call's face must be held by tests. */
    static void allHeldOf(int promise) {
        if (DOCUMENT.isEmpty()) return;
        int from = DOCUMENT.indexOf("## Promise " + promise + ":");
        name = "promise " + promise;
        wrong = 0;
        wholeIsHeld(from < 0 ? -1 : DOCUMENT.indexOf("`: ", from) + 3, from < 0 ? -1 : end(from));
    }

    private static void wholeIsHeld(int from, int to) {
        if (to < 0) fault("not in the document");
        for (int i = Math.max(from, 0); i < to && wrong == 0; i++) {
            if (!held[i] && DOCUMENT.charAt(i) != ' ') fault("no test holds \"" + DOCUMENT.substring(i, Math.min(i + 80, to)) + "\"");
        }
        if (wrong == 0) passed++;
        else failed++;
    }

    static void finish() {
        System.out.println(passed + " passed, " + failed + " failed");
        if (failed != 0) System.exit(1);
    }

    /** A village on its second day, with gifts by hand, all settings changed, an image of the day before; 3 is nobody. */
    static GaveTheDayBefore lively() {
        GaveTheDayBefore x = of("p22995,3;p10014,2;p43160,0;l432;");
        x.set(3, 2);
        x.day();
        x.image();
        x.day();
        x.give(0, 1, 3);
        x.give(1, 9, 1);
        return x;
    }

    /** The same with letters and a ROW begun. */
    static GaveTheDayBefore busy() {
        GaveTheDayBefore x = lively();
        x.feed('l');
        x.feed('1');
        row(x, 0, 1, 1, 2);
        return x;
    }

    static GaveTheDayBefore fullOfLetters() {
        GaveTheDayBefore x = new GaveTheDayBefore();
        for (int i = 0; i < 64; i++) x.feed("l030;".charAt(i % 5));
        return x;
    }

    /** The call is refused with the number: that is counted, and nothing else changes. */
    static void refused(Supplier<GaveTheDayBefore> maker, String call, ToIntFunction<GaveTheDayBefore> it, int refusal) {
        refusedAs(maker, call, it, refusal, refusal);
    }

    static void refusedAs(Supplier<GaveTheDayBefore> maker, String call, ToIntFunction<GaveTheDayBefore> it, int refusal, int answer) {
        GaveTheDayBefore x = maker.get();
        due(call, it.applyAsInt(x), answer);
        List<Integer> want = lookAt(maker.get());
        want.set(-refusal - 1, want.get(-refusal - 1) + 1);
        same(call, lookAt(x), want);
    }

    /** The call answers so, and nothing at all changes. */
    static void unchanged(Supplier<GaveTheDayBefore> maker, String call, ToIntFunction<GaveTheDayBefore> it, int answer) {
        GaveTheDayBefore x = maker.get();
        due(call, it.applyAsInt(x), answer);
        same(call, lookAt(x), lookAt(maker.get()));
    }

    /** The call changes nothing at all, whatever it answers. */
    static void inMind(String call, ToIntFunction<GaveTheDayBefore> it) {
        unchanged(Sentences::lively, call, it, it.applyAsInt(lively()));
    }

    private static void same(String call, List<Integer> got, List<Integer> want) {
        checks++;
        if (!got.equals(want)) fault("behind " + call + " there is " + got + ", due is " + want);
    }

    /** All that can be seen of an object, the REFUSALS first; it is used up by that. */
    private static List<Integer> lookAt(GaveTheDayBefore x) {
        List<Integer> seen = new ArrayList<>();
        for (int what = 11; what <= 16; what++) seen.add(x.count(what));
        for (int what = 0; what <= 6; what++) seen.add(x.count(what));
        lookAtPeople(x, seen);
        for (int what = 0; what <= 3; what++) {
            int was = x.set(what, 1);
            seen.add(was);
            x.set(what, was);
        }
        seen.add(x.told());
        seen.add(x.land());
        seen.add(x.restore());
        seen.add(x.count(1));
        lookAtPeople(x, seen);
        return seen;
    }

    private static void lookAtPeople(GaveTheDayBefore x, List<Integer> seen) {
        for (int p = 0; p < x.count(0); p++) {
            for (int what = 0; what <= 8; what++) seen.add(x.person(p, what));
            seen.add(x.after(p, 3));
        }
    }
}
