/** Texts that several tests load. */
final class Texts {
    static final Class<?> INDEX = IndexOutOfBoundsException.class;
    static final Class<?> ARGUMENT = IllegalArgumentException.class;
    static final Class<?> STATE = IllegalStateException.class;
    static final Class<?> NO_ELEMENT = java.util.NoSuchElementException.class;

    static final int LEAST = Integer.MIN_VALUE;
    static final int MOST = Integer.MAX_VALUE;

    /**
     * ..0..1...# : they hit in the second pulse, when 1 has come to cell 4; behind it 0 goes to the
     * left wall with -60 and bounces there in the sixth pulse, 1 goes to the right with 30.
     */
    static final String TWO =
            "box 10 steal 50 0;post 9 steal 0;ball a at 2 speed 60 weight 2;ball b at 5 speed -30 weight 4;";

    /** ..0.#1#2.. : nothing moves. */
    static final String THREE = "box 10;ball x at 2 speed 0 weight 1;post 4 steal 20;ball y at 5 speed 0 weight 3;"
            + "post 6 steal 30;ball z at 7 speed 0 weight 20;";

    /** 2 hits 1, which 1 has hit 0 ahead of that in the same pulse. */
    static final String ROW = "box 10;ball a at 4 speed 60 weight 1;ball b at 5 speed -60 weight 1;"
            + "ball c at 6 speed -60 weight 1;";

    private Texts() {
    }
}
