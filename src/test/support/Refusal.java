import java.util.ArrayList;
import java.util.LinkedHashMap;
import java.util.List;
import java.util.Map;

/**
 * Holds a refused call against the same run of calls without it: beside its answer, nothing that later calls
 * show may differ. Every question is put to a new pair of objects, as one object takes 512 calls and a
 * question may itself change something.
 */
final class Refusal {
    /** In place of an answer where the call throws an ArithmeticException. */
    static final long THROWS = Long.MIN_VALUE;

    interface Call {
        long on(FineRows x);
    }

    private interface Question {
        void ask(FineRows x, List<Long> answers);
    }

    private final Due due;
    private final Map<String, Question> questions = new LinkedHashMap<>();
    private final Map<Stories, Map<String, List<Long>>> withoutTheCall = new LinkedHashMap<>();

    Refusal(Due due) {
        this.due = due;
        askRules();
        askLoans();
        askDebts();
        askPersons();
    }

    void is(String name, Stories before, Call refused, long want) {
        Map<String, List<Long>> known = withoutTheCall.computeIfAbsent(before, this::askAll);
        for (Map.Entry<String, Question> entry : questions.entrySet()) {
            FineRows x = new FineRows();
            before.tell(x);
            long got = answerOf(refused, x);
            if (got != want) {
                due.is(name, got, want);
                return;
            }
            if (!answersOf(entry.getValue(), x).equals(known.get(entry.getKey()))) {
                due.fail(name + " is refused, but changes what is asked behind it: " + entry.getKey());
                return;
            }
        }
    }

    static long answerOf(Call call, FineRows x) {
        try {
            return call.on(x);
        } catch (ArithmeticException e) {
            return THROWS;
        }
    }

    private Map<String, List<Long>> askAll(Stories before) {
        Map<String, List<Long>> answers = new LinkedHashMap<>();
        for (Map.Entry<String, Question> entry : questions.entrySet()) {
            FineRows x = new FineRows();
            before.tell(x);
            answers.put(entry.getKey(), answersOf(entry.getValue(), x));
        }
        return answers;
    }

    private static List<Long> answersOf(Question question, FineRows x) {
        List<Long> answers = new ArrayList<>();
        question.ask(x, answers);
        return answers;
    }

    private void askRules() {
        questions.put("the next rules", (x, answers) -> {
            answers.add((long) x.rule(1, 2, 3));
            answers.add((long) x.rule(4, 5, 6));
        });
        questions.put("loans by each rule", (x, answers) -> {
            for (int rule = 0; rule <= 10; rule++) {
                int loan = x.loan(40 + rule, 28, rule, 0);
                answers.add((long) loan);
                for (long day : new long[] {1, 6, 300, 1000000}) {
                    answers.add(x.overdue(loan, day));
                }
            }
        });
        questions.put("the interest of each rule", (x, answers) -> {
            for (int rule = 0; rule <= 10; rule++) {
                answers.add(x.debt(x.lost(x.loan(30 + rule, 28, rule, 0), 10000000, 0), 5));
            }
        });
        questions.put("the next closed days", (x, answers) -> {
            answers.add((long) x.closed(777));
            answers.add((long) x.closed(778));
        });
        questions.put("whether an edge is closed", (x, answers) -> {
            for (long day : new long[] {0, 1, 301, 999999, 1000000}) {
                answers.add((long) x.closed(day));
            }
        });
    }

    private void askLoans() {
        for (int from = 0; from <= 121; from += 40) {
            int first = from;
            int last = Math.min(121, from + 39);
            String which = " of loans " + first + " to " + last;
            questions.put("overdue" + which, (x, answers) -> {
                for (int loan = first; loan <= last; loan++) {
                    answers.add(x.overdue(loan, 60));
                    answers.add(x.overdue(loan, 1000000));
                }
            });
            questions.put("back" + which, (x, answers) -> {
                for (int loan = first; loan <= last; loan++) {
                    answers.add((long) x.back(loan, 70));
                }
            });
            questions.put("lost" + which, (x, answers) -> {
                for (int loan = first; loan <= last; loan++) {
                    answers.add((long) x.lost(loan, 7, 70));
                }
            });
        }
        questions.put("found", (x, answers) -> {
            for (int item = 0; item < 60; item++) {
                answers.add(x.found(item, 10));
            }
        });
        questions.put("the next loans of all items", (x, answers) -> {
            for (int item = 0; item < 60; item++) {
                answers.add((long) x.loan(item, 28, 0, 5));
            }
        });
    }

    private void askDebts() {
        for (int from = 0; from <= 201; from += 15) {
            int first = from;
            int last = Math.min(201, from + 14);
            String which = " of debts " + first + " to " + last;
            questions.put("debt" + which, (x, answers) -> {
                for (int debt = first; debt <= last; debt++) {
                    for (int what = 0; what <= 5; what++) {
                        answers.add(x.debt(debt, what));
                    }
                }
            });
            questions.put("waive and share" + which, (x, answers) -> {
                for (int debt = first; debt <= last; debt++) {
                    answers.add(x.waive(debt, 45));
                    answers.add(x.share(debt, 1, 3));
                }
            });
        }
    }

    private void askPersons() {
        questions.put("owes", (x, answers) -> {
            for (int person = 0; person < 30; person++) {
                answers.add(x.owes(person, -1));
                answers.add(x.owes(person, 150));
                answers.add(x.owes(person, 1000000));
            }
        });
        questions.put("plan", (x, answers) -> {
            for (int person = 0; person < 30; person++) {
                answers.add(x.plan(person, 1, 0));
                answers.add(x.plan(person, 7, 3));
            }
        });
        questions.put("threshold and blocked", (x, answers) -> {
            for (int person = 0; person < 30; person++) {
                answers.add(x.blocked(person) ? 1L : 0L);
            }
            answers.add((long) x.threshold(9));
        });
        questions.put("pay", (x, answers) -> {
            for (int person = 0; person < 30; person++) {
                answers.add((long) x.pay(person, 1));
                answers.add((long) x.pay(person, 10000000));
                answers.add(x.owes(person, -1));
            }
        });
    }
}
