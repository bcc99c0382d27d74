/** The calls that ask for a letter. */
enum LetterUses {
    STATE, WHERE, WHERE_BY_MARKS, COMES_TO, SENT_ON, OVERTAKEN, MARKS, MARK_AT, WRITTEN;

    /** The place is for the calls alone that ask for one. */
    long of(SeaPost post, int letter, int place) {
        switch (this) {
            case STATE:
                return post.state(letter);
            case WHERE:
                return post.where(letter);
            case WHERE_BY_MARKS:
                return post.whereByMarks(letter);
            case COMES_TO:
                return post.comesTo(letter);
            case SENT_ON:
                return post.sentOn(letter);
            case OVERTAKEN:
                return post.overtaken(letter);
            case MARKS:
                return post.marks(letter);
            case MARK_AT:
                return post.markAt(letter, place);
            default:
                return post.written(letter, place);
        }
    }
}
