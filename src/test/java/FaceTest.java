import java.lang.reflect.Constructor;
import java.lang.reflect.Field;
import java.lang.reflect.Method;
import java.lang.reflect.Modifier;
import java.util.ArrayList;
import java.util.List;
import java.util.TreeSet;

/** The public face as the document writes it, and the rules that bind it. */
public final class FaceTest {
    private static final Check CHECK = new Check();

    public static void main(String[] args) {
        constants();
        methods();
        nothingElseIsSeen();
        CHECK.end("FaceTest");
    }

    private static void constants() {
        CHECK.due("BAD", TicketJournal.BAD, -1);
        CHECK.due("STATE", TicketJournal.STATE, -2);
        CHECK.due("OUT", TicketJournal.OUT, -3);
        CHECK.due("CUT", TicketJournal.CUT, -4);
        CHECK.due("NONE", TicketJournal.NONE, -9);
    }

    private static void methods() {
        String face = "after(3)int back(1)int block(2)int cancel(0)int close(0)int cut(1)int keep(1)int"
                + " load(2)int mean(0)float needed(1)int off(0)int operations(1)int pass(1)int"
                + " price(1)int record(2)int records(1)int sell(1)int setClock(1)int setPrice(2)int"
                + " start(0)int takings(1)int times(1)int told(1)int undo(0)int word(2)int";
        TreeSet<String> found = new TreeSet<>();
        List<String> hidden = new ArrayList<>();
        for (Method method : TicketJournal.class.getDeclaredMethods()) {
            if (Modifier.isPublic(method.getModifiers())) {
                found.add(method.getName() + "(" + method.getParameterCount() + ")" + method.getReturnType());
            } else {
                hidden.add(method.getName());
            }
        }
        CHECK.due("the face " + found, String.join(" ", found).equals(face) ? 1 : 0, 1);
        for (String name : hidden) {
            CHECK.due("a private method has a public name: " + name, face.contains(" " + name + "(") ? 1 : 0, 0);
        }
    }

    private static void nothingElseIsSeen() {
        int seen = 0;
        for (Method method : TicketJournal.class.getDeclaredMethods()) {
            seen += isHiddenWell(method.getModifiers()) ? 0 : 1;
        }
        for (Field field : TicketJournal.class.getDeclaredFields()) {
            boolean constant = "BAD STATE OUT CUT NONE".contains(field.getName());
            seen += constant || Modifier.isPrivate(field.getModifiers()) ? 0 : 1;
        }
        for (Constructor<?> constructor : TicketJournal.class.getDeclaredConstructors()) {
            seen += constructor.getParameterCount() == 0 ? 0 : 1;
        }
        CHECK.due("members that are seen beside the face", seen, 0);
        CHECK.due("the class is final", Modifier.isFinal(TicketJournal.class.getModifiers()) ? 1 : 0, 1);
    }

    private static boolean isHiddenWell(int modifiers) {
        return Modifier.isPublic(modifiers) || Modifier.isPrivate(modifiers);
    }
}
