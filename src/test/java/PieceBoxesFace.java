import java.lang.reflect.Field;
import java.lang.reflect.Member;
import java.lang.reflect.Method;
import java.lang.reflect.Modifier;
import java.util.ArrayList;
import java.util.List;
import java.util.Set;
import java.util.TreeSet;

// The class shows the document's face and nothing beside it.
public final class PieceBoxesFace {
    private static final Set<String> FACE = Set.of(
            "public static final int PieceBoxes.NONE",
            "public PieceBoxes()",
            "public boolean PieceBoxes.corner(int,int,int,int)",
            "public int PieceBoxes.add()",
            "public void PieceBoxes.clear()",
            "public int PieceBoxes.count()",
            "public int PieceBoxes.area(int)",
            "public int PieceBoxes.near(int,int,int)",
            "public int PieceBoxes.nearest(int,int)",
            "public int PieceBoxes.covering(int,int)",
            "public int PieceBoxes.next(int,int,int)");

    private static int wrong = 0;

    public static void main(String[] args) {
        faceIsTheDocuments();
        privateMethodsHaveNamesOfTheirOwn();
        staticFieldsAreFinal();
        System.out.println(wrong == 0 ? "the face is as due" : wrong + " faults in the face");
        if (wrong != 0) {
            System.exit(1);
        }
    }

    private static void due(String what, Object got, Object want) {
        if (!got.equals(want)) {
            wrong++;
            System.out.println(what + " is " + got + ", due is " + want);
        }
    }

    private static List<Member> members() {
        List<Member> all = new ArrayList<>();
        all.addAll(List.of(PieceBoxes.class.getDeclaredFields()));
        all.addAll(List.of(PieceBoxes.class.getDeclaredConstructors()));
        all.addAll(List.of(PieceBoxes.class.getDeclaredMethods()));
        return all;
    }

    private static void faceIsTheDocuments() {
        Set<String> open = new TreeSet<>();
        for (Member member : members()) {
            if (!Modifier.isPrivate(member.getModifiers()) && !member.isSynthetic()) {
                open.add(member.toString());
            }
        }
        due("the face", open, new TreeSet<>(FACE));
        due("the class's modifiers", Modifier.toString(PieceBoxes.class.getModifiers()),
                "public final");
    }

    private static void privateMethodsHaveNamesOfTheirOwn() {
        Set<String> open = new TreeSet<>();
        for (Method method : PieceBoxes.class.getDeclaredMethods()) {
            if (Modifier.isPublic(method.getModifiers())) {
                open.add(method.getName());
            }
        }
        for (Method method : PieceBoxes.class.getDeclaredMethods()) {
            if (Modifier.isPrivate(method.getModifiers())) {
                due("private " + method.getName() + " with a public name",
                        open.contains(method.getName()), false);
            }
        }
    }

    private static void staticFieldsAreFinal() {
        for (Field field : PieceBoxes.class.getDeclaredFields()) {
            if (Modifier.isStatic(field.getModifiers())) {
                due("static " + field.getName() + " final",
                        Modifier.isFinal(field.getModifiers()), true);
            }
        }
    }
}
