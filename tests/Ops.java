/** The document's names for OPS, for ops of PARTS, for refusals. */
interface Ops {
    int PUSH = 0, LOAD = 1, STORE = 2, ADD = 3, SUB = 4, MUL = 5, DIV = 6, LESS = 7, SAME = 8, JUMP = 9, WHEN = 10;
    int CALL = 11, RET = 12, FIELD = 13, KEEP = 14, NEW = 15, GET = 16, SET = 17, DUP = 18, POP = 19;
    int LI = 0, MOVE = 1, P_ADD = 2, P_SUB = 3, P_MUL = 4, P_DIV = 5, P_LESS = 6, P_SAME = 7, JMP = 8, JZ = 9;
    int P_CALL = 10, P_RET = 11, FLD = 12, STF = 13, P_NEW = 14, P_GET = 15, P_SET = 16, GARG = 17, GFLD = 18;
    int NONE = -1, BAD = -2, STATE = -3, FULL = -4;
    int LEAST = Integer.MIN_VALUE, MOST = Integer.MAX_VALUE;
}
