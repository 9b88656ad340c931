/** The errors by the numbers that the document gives them. */
interface Errors {
    int UNKNOWN = -1;
    int BAD_VALUE = -2;
    int FULL = -3;
    int NOT_POSSIBLE = -4;
    int NONE = -5;
}
