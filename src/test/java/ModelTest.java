import java.util.Random;

/** Runs of calls by chance: the class must answer as the slow model of the document does. */
public final class ModelTest {
    private static final int RUNS = 600;

    public static void main(String[] args) {
        Due due = new Due("ModelTest");
        int runs = args.length > 0 ? Integer.parseInt(args[0]) : RUNS;
        for (int run = 0; run < runs && due.wrongOnes() < 20; run++) {
            oneRun(run, due);
        }
        faults(due);
        due.end();
    }

    private static void oneRun(int seed, Due due) {
        Calls calls = new Calls(seed, due);
        Random by = new Random(-seed);
        int children = by.nextInt(10) == 0 ? 0 : 2 + by.nextInt(6);
        for (int i = 0; i < children; i++) {
            calls.someone();
        }
        for (int k = 0; k < 4; k++) {
            calls.make(4);
        }
        if (by.nextInt(5) != 0) {
            calls.textAndYard(calls.yardText());
        }
        while (calls.made() < 390) {
            if (by.nextInt(120) == 0) {
                calls.textAndYard(calls.yardText());
            }
            calls.any();
        }
    }

    /** Many texts, one object each six, for the FAULT alone. */
    private static void faults(Due due) {
        Calls texts = new Calls(77, due);
        for (int i = 0; i < 3000 && due.wrongOnes() < 20; i++) {
            WhileSheLooks one = new WhileSheLooks();
            String text = texts.yardText();
            for (char sign : text.toCharArray()) {
                one.feed(sign);
            }
            int fault = Model.fault(text);
            due.is("yard() of " + text, one.yard(), fault < 0 ? 0 : -10 - fault);
        }
    }
}
