/** Each of the document's words, from 'Terms' to 'Promise 19', has a test of its own: these. */
public final class SaysTest {
    public static void main(String[] args) {
        SaysPrograms.all();
        SaysLook.all();
        SaysRuns.all();
        SaysHot.all();
        SaysCode.all();
        SaysGuards.all();
        SaysPromises.all();
        SaysAnswers.all();
        Doc.everyWordIsTold();
        Due.end();
    }
}
