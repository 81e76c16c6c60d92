import java.lang.reflect.Constructor;
import java.lang.reflect.Field;
import java.lang.reflect.Method;
import java.lang.reflect.Modifier;
import java.util.Arrays;
import java.util.Set;
import java.util.TreeSet;

/** The public face is the document's, and nothing else can be seen from outside. */
public final class FaceTest {
    private static final String[] FACE = {
        "append(int,int,int,int,int)int!IllegalStateException",
        "load(int)int!IllegalArgumentException",
        "errorPosition()int",
        "setting(int)int!IllegalArgumentException",
        "periodOf(int)int!IndexOutOfBoundsException",
        "join(int,int,int)int!IllegalArgumentException!IllegalStateException",
        "more(int,int)int!IndexOutOfBoundsException!IllegalArgumentException!IllegalStateException",
        "reduce(int,int)int!IndexOutOfBoundsException!IllegalArgumentException"
            + "!IllegalStateException",
        "transfer(int,int,int)int!IndexOutOfBoundsException!IllegalArgumentException"
            + "!IllegalStateException",
        "assign(int,int,int)void!IndexOutOfBoundsException!IllegalArgumentException"
            + "!IllegalStateException",
        "leave(int)long!IndexOutOfBoundsException!IllegalStateException",
        "subscriberCount()int",
        "state(int)int!IndexOutOfBoundsException",
        "shares(int)int!IndexOutOfBoundsException",
        "freeShares()int",
        "waitingPlace(int)int!IndexOutOfBoundsException",
        "passDays(int)int!IllegalArgumentException!IllegalStateException",
        "generate(int,int)int!IndexOutOfBoundsException!IllegalArgumentException"
            + "!IllegalStateException",
        "bill(int,int)long!IndexOutOfBoundsException!IllegalArgumentException"
            + "!IllegalStateException",
        "endMonth()long!IllegalStateException",
        "month()int",
        "generation(int,int)int!IndexOutOfBoundsException",
        "shareDays(int,int)int!IndexOutOfBoundsException",
        "projectedPart(int)long!IndexOutOfBoundsException",
        "projectedCredit(int)long!IndexOutOfBoundsException",
        "forecastBalance(int,int)long!IndexOutOfBoundsException!IllegalArgumentException",
        "neededRate(int,int,long)int!IndexOutOfBoundsException!NoSuchElementException",
        "issued(int)long!IndexOutOfBoundsException",
        "shareDayValue(int,boolean)long!IndexOutOfBoundsException",
        "neededShares(long)int!IllegalArgumentException!NoSuchElementException",
        "balance(int)long!IndexOutOfBoundsException",
        "lot(int,int)long!IndexOutOfBoundsException",
        "account(int,int)long!IndexOutOfBoundsException!IllegalArgumentException",
        "expiring(int)long!IndexOutOfBoundsException",
        "monthsCovered(int,long)int!IndexOutOfBoundsException!IllegalArgumentException",
        "fund()long",
        "operatorAccount()long",
        "correct(int,int,int)int!IndexOutOfBoundsException!IllegalArgumentException",
        "trueUp()long",
        "shareFund()long!IllegalStateException",
        "describe(int)int!IndexOutOfBoundsException",
        "describedByte(int)int!IndexOutOfBoundsException",
        "undo()int!IllegalStateException",
    };

    private FaceTest() {
    }

    public static void main(String[] args) {
        constantsAreAsDue();
        methodsAreTheFace();
        fieldsAreHidden();
        innerNamesDiffer();
        Check.finish();
    }

    private static void constantsAreAsDue() {
        Check.due("NONE", -1, SolarLedger.NONE);
        Check.due("SYNTAX_ERROR", -2, SolarLedger.SYNTAX_ERROR);
        Check.due("VALUE_ERROR", -3, SolarLedger.VALUE_ERROR);
        Check.due("TOO_MANY", -4, SolarLedger.TOO_MANY);
    }

    private static void methodsAreTheFace() {
        Check.due("modifiers", Modifier.PUBLIC | Modifier.FINAL, SolarLedger.class.getModifiers());
        Set<String> seen = new TreeSet<>();
        for (Method method : SolarLedger.class.getDeclaredMethods()) {
            if (!Modifier.isPrivate(method.getModifiers())) {
                Check.due(method + " modifiers", Modifier.PUBLIC, method.getModifiers());
                seen.add(signature(method));
            }
        }
        Check.due("the face", new TreeSet<>(Arrays.asList(FACE)).toString(), seen.toString());
        Constructor<?>[] constructors = SolarLedger.class.getDeclaredConstructors();
        Check.due("constructors", 1, constructors.length);
        Check.due("constructor", "public SolarLedger()", constructors[0].toString());
    }

    private static String signature(Method method) {
        StringBuilder text = new StringBuilder(method.getName()).append('(');
        for (Class<?> type : method.getParameterTypes()) {
            text.append(text.charAt(text.length() - 1) == '(' ? "" : ",").append(type.getName());
        }
        text.append(')').append(method.getReturnType().getName());
        for (Class<?> type : method.getExceptionTypes()) {
            text.append('!').append(type.getSimpleName());
        }
        return text.toString();
    }

    private static void fieldsAreHidden() {
        Set<String> shown = new TreeSet<>();
        for (Field field : SolarLedger.class.getDeclaredFields()) {
            if (!Modifier.isPrivate(field.getModifiers())) {
                shown.add(field.getName());
            }
        }
        Check.due("fields", "[NONE, SYNTAX_ERROR, TOO_MANY, VALUE_ERROR]", shown.toString());
    }

    private static void innerNamesDiffer() {
        Set<String> names = new TreeSet<>();
        for (String method : FACE) {
            names.add(method.substring(0, method.indexOf('(')));
        }
        for (Class<?> inner : SolarLedger.class.getDeclaredClasses()) {
            if (!Modifier.isStatic(inner.getModifiers())) {
                Check.fail(inner + " is not static");
            }
            for (Method method : inner.getDeclaredMethods()) {
                if (names.contains(method.getName())) {
                    Check.fail(method + " bears the name of a public method");
                }
            }
        }
        for (Method method : SolarLedger.class.getDeclaredMethods()) {
            if (Modifier.isPrivate(method.getModifiers()) && names.contains(method.getName())) {
                Check.fail(method + " bears the name of a public method");
            }
        }
    }
}
