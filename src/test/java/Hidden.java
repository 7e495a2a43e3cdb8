import java.lang.reflect.Field;

/** What no run of calls can reach: no text tells food for more than some 7000 days, but DAYS are refused above 9000. */
final class Hidden {
    private Hidden() {
    }

    static void setDays(SiegePlate x, int days) {
        try {
            Object camp = held(held(x, "now"), "camp");
            Field field = camp.getClass().getDeclaredField("days");
            field.setAccessible(true);
            field.setInt(camp, days);
        } catch (ReflectiveOperationException e) {
            throw new IllegalStateException(e);
        }
    }

    private static Object held(Object in, String name) throws ReflectiveOperationException {
        Field field = in.getClass().getDeclaredField(name);
        field.setAccessible(true);
        return field.get(in);
    }
}
