import java.util.ArrayList;
import java.util.List;
import java.util.Random;

/** Runs of calls by chance (the same ones each time): the class answers what the model answers. */
public final class ModelTest {
    private static final int RUNS = 3000;
    private static final int CALLS = 512;

    private static final class Run {
        final Random chance;
        final ParadeRow x = new ParadeRow();
        final Model model = new Model();
        final List<String> calls = new ArrayList<>();
        int made = 0;
        boolean wrong = false;

        Run(int number) {
            chance = new Random(number);
        }

        void due(String call, int got, int want) {
            made++;
            calls.add(call + " = " + got);
            if (got != want && !wrong) {
                wrong = true;
                Due.same("calls " + calls, got, want);
            }
        }

        int upTo(int n) {
            return chance.nextInt(n + 1);
        }

        /** Mostly one that is there, at times one that is not. */
        int someone() {
            int persons = Math.max(1, model.told(0));
            return chance.nextInt(25) == 0 ? chance.nextInt(12) - 2 : chance.nextInt(persons);
        }

        int numberAround(int least, int most) {
            return chance.nextInt(15) == 0 ? least - 2 + chance.nextInt(most - least + 5) : least + chance.nextInt(most - least + 1);
        }

        int row(int without, int with) {
            int row = chance.nextInt(1 << Math.max(1, model.told(0)));
            if (chance.nextInt(12) != 0) {
                row &= ~(1 << without);
            }
            if (chance.nextInt(8) != 0 && with >= 0) {
                row |= 1 << with;
            }
            return chance.nextInt(60) == 0 ? chance.nextInt() : row;
        }

        /** Mostly a pair of which the first knows the second. */
        int[] pair() {
            for (int tries = 0; tries < 6 && chance.nextInt(12) != 0; tries++) {
                int w = someone();
                int p = someone();
                if (model.remembers(w, p) >= 0) {
                    return new int[] {w, p};
                }
            }
            return new int[] {someone(), someone()};
        }
    }

    private ModelTest() {
    }

    public static void main(String[] args) {
        for (int number = 0; number < RUNS; number++) {
            Run run = new Run(number);
            feedAndPlace(run, soundText(run));
            while (run.made < CALLS && !run.wrong) {
                call(run, run.chance.nextInt(40));
            }
            Due.is("run " + number + ", as the model answers", run.wrong ? 1 : 0, 0);
        }
        for (int number = RUNS; number < 4 * RUNS; number++) {
            Run run = new Run(number);
            for (int i = 0; i < 3; i++) {
                feedAndPlace(run, spoilt(run, soundText(run)));
            }
            Due.is("run " + number + " of texts, as the model answers", run.wrong ? 1 : 0, 0);
        }
        Due.end("ModelTest");
    }

    private static void feedAndPlace(Run run, String text) {
        for (int i = 0; i < text.length(); i++) {
            int letter = text.charAt(i);
            run.due("feed(" + letter + ")", run.x.feed(letter), run.model.feed(letter));
        }
        run.due("place()", run.x.place(), run.model.place());
        run.due("fault()", run.x.fault(), run.model.fault());
    }

    private static String blanks(Run run, int least) {
        return " ".repeat(least + (run.chance.nextInt(6) == 0 ? 1 : 0));
    }

    private static String soundText(Run run) {
        StringBuilder text = new StringBuilder();
        int persons = run.upTo(8);
        int near = run.chance.nextInt(256);
        for (int i = 0; i < persons; i++) {
            int marks = run.chance.nextBoolean() ? run.upTo(255) : near ^ 1 << run.upTo(7);
            text.append('p').append(blanks(run, 0)).append(marks).append(blanks(run, 1)).append(run.upTo(7)).append(';');
        }
        for (int i = 0; persons > 1 && i < 2 * persons; i++) {
            int w = run.chance.nextInt(persons);
            int p = run.chance.nextInt(persons);
            String clause = "k" + w + " " + p + ";";
            if (w != p && text.indexOf(clause) < 0) {
                text.append(clause);
            }
        }
        return text.toString();
    }

    private static String spoilt(Run run, String text) {
        StringBuilder spoilt = new StringBuilder(text);
        String letters = "pk;0123456789  x";
        int changes = run.upTo(3);
        for (int i = 0; i < changes; i++) {
            int at = run.upTo(spoilt.length());
            char letter = letters.charAt(run.chance.nextInt(letters.length()));
            int kind = run.chance.nextInt(4);
            if (kind == 0) {
                spoilt.insert(at, letter);
            } else if (kind == 1 && at < spoilt.length()) {
                spoilt.setCharAt(at, letter);
            } else if (kind == 2 && at < spoilt.length()) {
                spoilt.deleteCharAt(at);
            } else if (run.chance.nextInt(4) == 0) {
                spoilt.setLength(at);
            }
        }
        return spoilt.toString();
    }

    private static void call(Run run, int kind) {
        if (kind < 12) {
            callDone(run, kind);
        } else if (kind < 24) {
            callTried(run, kind);
        } else {
            callOther(run, kind);
        }
    }

    private static void callDone(Run run, int kind) {
        ParadeRow x = run.x;
        Model m = run.model;
        int[] pair = run.pair();
        int w = pair[0];
        int p = pair[1];
        int n = run.chance.nextInt(4) == 0 ? run.numberAround(1, 60) : 1 + run.upTo(3);
        int row = run.row(w, run.someone());
        int k = run.numberAround(0, 7);
        switch (kind) {
            case 0: run.due("year(" + n + ")", x.year(n), m.year(n)); break;
            case 1: case 2: run.due("meet(" + w + ", " + p + ")", x.meet(w, p), m.meet(w, p)); break;
            case 3: run.due("forget(" + w + ", " + p + ")", x.forget(w, p), m.forget(w, p)); break;
            case 4: case 5: case 6: case 7:
                run.due("parade(" + w + ", " + p + ", " + row + ")", x.parade(w, p, row), m.parade(w, p, row));
                break;
            case 8: case 9: run.due("mark(" + p + ", " + k + ")", x.mark(p, k), m.mark(p, k)); break;
            case 10: run.due("drift(" + n + ")", x.drift(n), m.drift(n)); break;
            default: run.due("undo()", x.undo(), m.undo()); break;
        }
    }

    private static void callTried(Run run, int kind) {
        ParadeRow x = run.x;
        Model m = run.model;
        int[] pair = run.pair();
        int w = pair[0];
        int p = pair[1];
        int row = run.row(w, p);
        int who = run.someone();
        int n = run.numberAround(2, 8);
        int k = run.numberAround(1, 8);
        int what = run.numberAround(0, 2);
        int other = run.row(w, who);
        String wp = "(" + w + ", " + p + ", ";
        switch (kind) {
            case 12: run.due("sure" + wp + row + ")", x.sure(w, p, row), m.sure(w, p, row)); break;
            case 13: run.due("bestRow" + wp + n + ")", x.bestRow(w, p, n), m.bestRow(w, p, n)); break;
            case 14: run.due("odds" + wp + other + ", " + who + ")", x.odds(w, p, other, who), m.odds(w, p, other, who)); break;
            case 15: run.due("ask(" + p + ", " + row + ")", x.ask(p, row), m.ask(p, row)); break;
            case 16: run.due("ring(" + p + ")", x.ring(p), m.ring(p)); break;
            case 17: run.due("rings(" + what + ")", x.rings(what), m.rings(what)); break;
            case 18: run.due("mask" + wp + row + ", " + k + ")", x.mask(w, p, row, k), m.mask(w, p, row, k)); break;
            case 19: run.due("spoil" + wp + other + ", " + who + ")", x.spoil(w, p, other, who), m.spoil(w, p, other, who)); break;
            case 20: case 21:
                run.due("impostor" + wp + who + ", " + n + ", " + what % 2 + ")",
                    x.impostor(w, p, who, n, what % 2), m.impostor(w, p, who, n, what % 2));
                break;
            case 22: run.due("lost(" + (k - 2) + ")", x.lost(k - 2), m.lost(k - 2)); break;
            default:
                int years = run.numberAround(0, 60);
                run.due("alike(" + years + ")", x.alike(years), m.alike(years));
                break;
        }
    }

    private static void callOther(Run run, int kind) {
        ParadeRow x = run.x;
        Model m = run.model;
        int[] pair = run.pair();
        int w = pair[0];
        int p = pair[1];
        int who = run.someone();
        int row = run.row(w, who);
        int i = run.numberAround(0, 1);
        int v = run.chance.nextInt();
        int what = run.numberAround(0, 8);
        switch (kind) {
            case 24: case 25:
                run.due("see(" + w + ", " + p + ", " + row + ", " + who + ")", x.see(w, p, row, who), m.see(w, p, row, who));
                break;
            case 26: run.due("honest()", x.honest(), m.honest()); break;
            case 27: run.due("nods(" + w + ")", x.nods(w), m.nods(w)); break;
            case 28: run.due("showNext(" + w + ", " + p + ")", x.showNext(w, p), m.showNext(w, p)); break;
            case 29: run.due("write(" + p + ", " + who + ")", x.write(p, who), m.write(p, who)); break;
            case 30: run.due("judge()", x.judge(), m.judge()); break;
            case 31: run.due("told(" + what + ")", x.told(what), m.told(what)); break;
            case 32: run.due("told(" + what + ")", x.told(what), m.told(what)); break;
            case 33: run.due("person(" + p + ", " + what % 5 + ")", x.person(p, what % 5), m.person(p, what % 5)); break;
            case 34: run.due("remembers(" + w + ", " + p + ")", x.remembers(w, p), m.remembers(w, p)); break;
            default: callSeldom(run, run.chance.nextInt(12), i, v); break;
        }
    }

    private static void callSeldom(Run run, int kind, int i, int v) {
        ParadeRow x = run.x;
        Model m = run.model;
        switch (kind) {
            case 0: run.due("tear()", x.tear(), m.tear()); break;
            case 1: run.due("seed(" + v + ")", x.seed(v), m.seed(v)); break;
            case 2: run.due("keep(" + i + ")", x.keep(i), m.keep(i)); break;
            case 3: run.due("goBack(" + i + ")", x.goBack(i), m.goBack(i)); break;
            case 4: run.due("fault()", x.fault(), m.fault()); break;
            case 5: run.due("feed(" + v % 300 + ")", x.feed(v % 300), m.feed(v % 300)); break;
            case 6:
                if (run.chance.nextInt(10) == 0) {
                    run.due("place()", x.place(), m.place());
                }
                break;
            default: run.due("told(8)", x.told(8), m.told(8)); break;
        }
    }
}
