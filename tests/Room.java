import java.lang.reflect.Array;
import java.lang.reflect.Field;
import java.lang.reflect.Modifier;
import java.util.Collections;
import java.util.IdentityHashMap;
import java.util.Set;

/** All calls of a run live in one room: how much one GirlShots takes of it, and that its calls take no more. */
public final class Room {
  private static final int MOST_OBJECTS = 150;
  private static final int MOST_ELEMENTS = 3500;
  private static final int CALLS = 512;
  private static final String FILM = "mark a 99 6;mark b 0 2;mark c 50 6;mark d 9 6;shot a 1 0;shot b 2 0;shot c 3 1;shot d 4 9;shot e 5 9;shot f 6 9;"
      + "has a a 5;has b a 4;has c b 1;has d a 1;has d c 2;has e c 3;party a a 3 99;party b a 2 99;clerk a 63;cold 2 9;ill 50;seed 7;"
      + "law notice strike/day;law yield plums>2;law again cost*said;";

  private final Set<Object> found = Collections.newSetFromMap(new IdentityHashMap<>());
  private int elements = 0;

  private Room() { }

  public static void main(String[] args) throws IllegalAccessException {
    GirlShots x = new GirlShots();
    Room before = of(x);
    Due.is("objects and arrays, " + before.found.size(), before.found.size() <= MOST_OBJECTS, true);
    Due.is("fields and elements, " + before.elements, before.elements <= MOST_ELEMENTS, true);
    for (int k = 0; k < CALLS; k++) call(x, k);
    Room behind = of(x);
    Due.is("no more elements, " + behind.elements, behind.elements <= before.elements, true);
    Due.is("none but the first objects", before.found.containsAll(behind.found), true);
    Due.end();
  }

  private static Room of(GirlShots x) throws IllegalAccessException {
    Room room = new Room();
    room.walk(x);
    return room;
  }

  private void walk(Object it) throws IllegalAccessException {
    if (it == null || !found.add(it)) return;
    if (it.getClass().isArray()) {
      elements += Array.getLength(it);
      Due.is("3: a row of numbers", it.getClass().getComponentType().isPrimitive(), true);
      return;
    }
    for (Field field : it.getClass().getDeclaredFields()) {
      if (Modifier.isStatic(field.getModifiers())) continue;
      elements++;
      field.setAccessible(true);
      if (!field.getType().isPrimitive()) walk(field.get(it));
    }
  }

  private static void call(GirlShots x, int k) {
    int a = k / 20 % 6;
    switch (k % 20) {
      case 0: Feeder.read(x, k % 60 == 0 ? FILM : k % 60 == 20 ? FILM + "?" : ""); break;
      case 1: x.go(a); break;
      case 2: x.tell(a, 1); break;
      case 3: x.plums(a, 9); break;
      case 4: x.move(a, 50 + a); break;
      case 5: x.see(a, a, true); break;
      case 6: x.out(a); break;
      case 7: x.struckHow(a); break;
      case 8: x.chance(k, 9, 1); break;
      case 9: x.order(a); break;
      case 10: x.least(a); break;
      case 11: x.tried(a, 0, 30); break;
      case 12: x.bribe(a); break;
      case 13: x.keep(); break;
      case 14: x.law(a % 3, a, a); break;
      case 15: x.back(); break;
      case 16: x.undo(); break;
      case 17: x.rest(0, 1, a); break;
      case 18: x.ahead(20, a); break;
      default: x.agrees();
    }
  }
}
