/** Prints every answer that is not the one that is due, and ends with exit code 1 if there was one. */
final class Due {
    private String topic = "";
    private int wrong;

    void topic(String newTopic) {
        topic = newTopic;
    }

    void is(String call, long due, long answered) {
        if (answered != due) {
            wrong++;
            System.out.println(topic + ": " + call + " answered " + answered + ", due is " + due);
        }
    }

    void holds(String what, boolean stands) {
        is(what, 1, stands ? 1 : 0);
    }

    void end() {
        System.out.println(wrong == 0 ? "all answers are as due" : wrong + " answers are not as due");
        if (wrong != 0) {
            System.exit(1);
        }
    }
}
