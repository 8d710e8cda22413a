/** All that can be read of a line without changing it, as one text. */
final class Readings {
    private Readings() {
    }

    static String of(WebTensionLine x) {
        StringBuilder text = new StringBuilder();
        for (int what = 0; what <= 7; what++) {
            text.append(x.value(what)).append(' ');
        }
        for (int i = 0; i < x.value(3); i++) {
            for (int what = 0; what <= 7; what++) {
                text.append(x.measure(i, what)).append(' ');
            }
            text.append(x.steadyTension(i)).append(' ').append(x.forecast(i, 25)).append(' ');
        }
        for (int i = 0; i <= x.value(3); i++) {
            for (int what = 0; what <= 3; what++) {
                text.append(x.roller(i, what)).append(' ');
            }
        }
        for (int k = 0; k < x.value(7); k++) {
            text.append(x.event(k, 0)).append(' ').append(x.event(k, 1)).append(' ');
            text.append(x.event(k, 2)).append(' ');
        }
        for (int k = 0; k < x.value(4); k++) {
            text.append(x.markDistance(k)).append(' ');
        }
        text.append(x.web(0)).append(' ').append(x.web(1)).append(' ').append(x.web(2));
        text.append(' ').append(x.breakAt()).append(' ').append(x.slackSpans());
        return text.append(' ').append(x.outlook(300)).toString();
    }
}
