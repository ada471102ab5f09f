/** Calls that only answer change nothing: of what the document lets them do, nothing is a change. */
public final class QuestionsTest {
    private static final Checks checks = new Checks();
    private static final Twins[] all = {
        new Twins(checks, Twins::fresh), new Twins(checks, Twins::underWay), new Twins(checks, Twins::full)};
    private static final Twins.Story[] stories = {Twins::fresh, Twins::underWay, Twins::full};

    public static void main(String[] args) {
        checks.sentence("a question changes nothing");
        for (int i = 0; i < all.length; i++) {
            asking(i);
        }
        checks.end();
    }

    /** The answer itself is what the same question gets on another object of the same story. */
    private static void asked(int story, String name, Twins.Call call) {
        AlongsideLines x = new AlongsideLines();
        stories[story].tellTo(x);
        all[story].changesNothing(name, call.on(x), call);
    }

    private static void asking(int story) {
        asked(story, "fault()", x -> x.fault());
        asked(story, "told(3)", x -> x.told(3));
        asked(story, "post(0, 1)", x -> x.post(0, 1));
        asked(story, "now(15)", x -> x.now(15));
        asked(story, "odds(100, 0)", x -> x.odds(100, 0));
        asked(story, "line(0, 4)", x -> x.line(0, 4));
        asked(story, "does(100, 0)", x -> x.does(100, 0));
        asked(story, "tried(600, 10)", x -> x.tried(600, 10));
        asked(story, "tried(600, 17)", x -> x.tried(600, 17));
        asked(story, "astern()", x -> x.astern());
        asked(story, "off()", x -> x.off());
        asked(story, "wind(300)", x -> x.wind(300));
        asked(story, "gap(300)", x -> x.gap(300));
        asked(story, "tug(300)", x -> x.tug(300));
        asked(story, "needs(0, 1, 999)", x -> x.needs(0, 1, 999));
        asked(story, "tended(0, 999, -1)", x -> x.tended(0, 999, -1));
        asked(story, "tended(0, 0, 1)", x -> x.tended(0, 0, 1));
        asked(story, "wakes(500)", x -> x.wakes(500));
        asked(story, "order(-1)", x -> x.order(-1));
        asked(story, "order(2)", x -> x.order(2));
        asked(story, "judge(0)", x -> x.judge(0));
        asked(story, "judge(9999)", x -> x.judge(9999));
    }
}
