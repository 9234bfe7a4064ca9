public final class ConstantsTest {
    public static void main(String[] args) {
        if (TwinTrees.REFUSED != -1 || TwinTrees.NONE != -2 || TwinTrees.FULL != -3) {
            System.out.println("a constant is wrong");
            System.exit(1);
        }
    }
}
