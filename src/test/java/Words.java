/** The numbers of the document, by its words, for the tests. */
interface Words {
    int NUMBER = 0, PROMISE = 1, THENABLE = 2;
    int NOTE = 0, SHOW = 1, SET = 2, GIVE = 3, THROW = 4, AWAIT = 5, TRY = 6, END = 7;
    int CALL = 8, RESOLVE = 9, REJECT = 10, THEN = 11, LATER = 12, IF = 13, LESS = 14;
    int ALL = 0, RACE = 1, SETTLED = 2, ANY = 3;
    int BAD = -1, FULL = -2, PENDING = 0, FULFILLED = 1, REJECTED = 2;
    int LEAST = Integer.MIN_VALUE, MOST = Integer.MAX_VALUE;
}
