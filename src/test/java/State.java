import java.util.function.Consumer;

/**
 * A state in which calls are refused: how an object comes to it, and what each question is answered in
 * it. Each question is put to an object of its own, so that none is used for more than 512 calls.
 */
final class State {
    private final String name;
    private final Consumer<Multidell> making;
    private final String[] answers = new String[Question.count()];

    State(String name, Consumer<Multidell> making) {
        this.name = name;
        this.making = making;
        for (int question = 0; question < answers.length; question++) {
            answers[question] = Question.ask(Nets.made(making), question);
        }
    }

    /** The call throws an exception of just this class, and no question is answered otherwise by it. */
    void refuses(String call, Class<? extends RuntimeException> due, Consumer<Multidell> refused) {
        for (int question = 0; question < answers.length; question++) {
            Multidell net = Nets.made(making);
            Check.throwing(name + ": " + call, due, () -> refused.accept(net));
            Check.same(name + ": " + call + " leaves " + Question.name(question),
                    answers[question], Question.ask(net, question));
        }
    }
}
