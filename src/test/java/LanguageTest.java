import com.sun.source.tree.ArrayTypeTree;
import com.sun.source.tree.BinaryTree;
import com.sun.source.tree.ClassTree;
import com.sun.source.tree.CompilationUnitTree;
import com.sun.source.tree.ExpressionTree;
import com.sun.source.tree.ImportTree;
import com.sun.source.tree.LiteralTree;
import com.sun.source.tree.MemberSelectTree;
import com.sun.source.tree.MethodInvocationTree;
import com.sun.source.tree.MethodTree;
import com.sun.source.tree.NewClassTree;
import com.sun.source.tree.Tree;
import com.sun.source.tree.VariableTree;
import com.sun.source.util.JavacTask;
import com.sun.source.util.TreePath;
import com.sun.source.util.TreePathScanner;
import com.sun.source.util.Trees;
import java.io.File;
import java.lang.reflect.Constructor;
import java.lang.reflect.Field;
import java.lang.reflect.Method;
import java.lang.reflect.Modifier;
import java.util.ArrayList;
import java.util.Arrays;
import java.util.EnumSet;
import java.util.HashMap;
import java.util.HashSet;
import java.util.List;
import java.util.Map;
import java.util.Set;
import java.util.TreeMap;
import java.util.TreeSet;
import javax.lang.model.element.Element;
import javax.lang.model.element.ElementKind;
import javax.lang.model.type.TypeMirror;
import javax.tools.JavaCompiler;
import javax.tools.StandardJavaFileManager;
import javax.tools.ToolProvider;

/** The rules of LANGUAGE.md that can be read off the source: the face, the words, the library, the sizes. */
public final class LanguageTest {
    private static final String FACE = "BAD_VALUE=-1 FULL=-2 NOT_POSSIBLE=-3 NONE=-4 NEVER=0 EXACT=1 TURNED=2 ANY=3 "
            + "BY_NUMBER=0 BY_AREA=1 BY_SIDE=2 BY_HEIGHT=3 SHORT_SIDE=0 LONG_SIDE=1 AREA=2 TOP_LEFT=3 "
            + "append(int) clearText() faultPosition() read() draw(int,int) sprites() width(int) height(int) "
            + "color(int,int,int) setPixel(int,int,int,int) drop(int) setGroup(int,int) groupOf(int) trimLeft(int) "
            + "trimTop(int) trimWidth(int) trimHeight(int) originalOf(int) orientationOf(int) setPageSize(int,int) "
            + "setPageLimit(int) setMargins(int,int,int) setTrimming(boolean) setMatching(int) setRotation(boolean) "
            + "setGrouped(boolean) setOrder(int) setWay(int) pack() insert(int) unplace(int) undo() pageOf(int) "
            + "xOf(int) yOf(int) isTurned(int) recordOf(int) pages() pixel(int,int,int) spriteAt(int,int,int) "
            + "usedWidth(int) usedHeight(int) freeRectangles(int) freeX(int,int) freeY(int,int) freeWidth(int,int) "
            + "freeHeight(int,int) fill(int,boolean) unplaced() pageBound() bestMethod() smallestPage() print(int) "
            + "printed(int) keep(int) restore(int) checksum()";

    private static final Set<Tree.Kind> FORBIDDEN = EnumSet.of(Tree.Kind.THROW, Tree.Kind.TRY, Tree.Kind.CATCH,
            Tree.Kind.SYNCHRONIZED, Tree.Kind.ASSERT, Tree.Kind.LAMBDA_EXPRESSION, Tree.Kind.MEMBER_REFERENCE,
            Tree.Kind.SWITCH_EXPRESSION, Tree.Kind.ANNOTATION_TYPE, Tree.Kind.UNION_TYPE, Tree.Kind.INTERSECTION_TYPE);

    private static final Set<String> LIBRARY = new HashSet<>(Arrays.asList("java.lang.String.length",
            "java.lang.String.charAt", "java.lang.StringBuilder.append(char)", "java.lang.StringBuilder.append(int)",
            "java.lang.StringBuilder.append(java.lang.String)", "java.lang.StringBuilder.charAt",
            "java.lang.StringBuilder.length", "java.lang.StringBuilder.setLength", "java.lang.StringBuilder.<init>",
            "java.lang.Object.<init>", "java.lang.Math.max", "java.lang.Math.min", "java.lang.Long.bitCount",
            "java.lang.System.arraycopy", "java.util.Arrays.fill"));

    public static void main(String[] args) throws Exception {
        face();
        File source = new File("src/main/java/SpriteAtlas.java");
        JavaCompiler compiler = ToolProvider.getSystemJavaCompiler();
        StandardJavaFileManager files = compiler.getStandardFileManager(null, null, null);
        JavacTask task = (JavacTask) compiler.getTask(null, files, null, null, null, files.getJavaFileObjects(source));
        CompilationUnitTree unit = task.parse().iterator().next();
        task.analyze();
        Check.holds("no package line", unit.getPackage() == null);
        Check.due("one type in the file", unit.getTypeDecls().size(), 1);
        for (ImportTree line : unit.getImports()) {
            Check.due("import", line.getQualifiedIdentifier().toString(), "java.util.Arrays");
        }
        Reader reader = new Reader(Trees.instance(task), unit);
        reader.scan(unit, null);
        reader.finish();
        Check.finish();
    }

    private static void face() {
        Class<?> face = SpriteAtlas.class;
        Check.due("1: modifiers of the class", face.getModifiers(), Modifier.PUBLIC | Modifier.FINAL);
        Set<String> members = new TreeSet<>();
        for (Field field : face.getDeclaredFields()) {
            if (!Modifier.isPrivate(field.getModifiers())) {
                Check.due("1: modifiers of " + field, field.getModifiers(),
                        Modifier.PUBLIC | Modifier.STATIC | Modifier.FINAL);
                try {
                    members.add(field.getName() + "=" + field.getInt(null));
                } catch (IllegalAccessException e) {
                    Check.holds("1: " + field + " can be read", false);
                }
            }
        }
        Set<String> shown = new HashSet<>();
        for (Method method : face.getDeclaredMethods()) {
            if (!Modifier.isPrivate(method.getModifiers())) {
                Check.due("1: modifiers of " + method, method.getModifiers(), Modifier.PUBLIC);
                Class<?> answer = method.getName().equals("checksum") ? long.class : int.class;
                Check.holds("1: the answer of " + method, method.getReturnType() == answer);
                members.add(signature(method));
                shown.add(method.getName());
            }
        }
        Check.due("1: the face", members.toString(), new TreeSet<>(Arrays.asList(FACE.split(" "))).toString());
        for (Method method : face.getDeclaredMethods()) {
            boolean hidden = Modifier.isPrivate(method.getModifiers());
            Check.holds("1: the name of " + method, !(hidden && shown.contains(method.getName())));
        }
        Constructor<?>[] constructors = face.getDeclaredConstructors();
        Check.due("1: constructors", constructors.length, 1);
        Check.due("1: modifiers of the constructor", constructors[0].getModifiers(), Modifier.PUBLIC);
        Check.due("1: parameters of the constructor", constructors[0].getParameterCount(), 0);
        for (Class<?> inside : face.getDeclaredClasses()) {
            Check.holds("2: " + inside + " is static", Modifier.isStatic(inside.getModifiers()));
            Check.holds("1: " + inside + " is hidden", !Modifier.isPublic(inside.getModifiers())
                    && !Modifier.isProtected(inside.getModifiers()));
            for (Method method : inside.getDeclaredMethods()) {
                Check.holds("1: the name of " + method, !shown.contains(method.getName()));
            }
        }
        Check.holds("11: classes", face.getDeclaredClasses().length + 1 <= 12);
    }

    private static String signature(Method method) {
        StringBuilder text = new StringBuilder(method.getName()).append('(');
        for (Class<?> parameter : method.getParameterTypes()) {
            text.append(text.charAt(text.length() - 1) == '(' ? "" : ",").append(parameter.getSimpleName());
        }
        return text.append(')').toString();
    }

    /** Walks over the source. */
    private static final class Reader extends TreePathScanner<Void, Void> {
        private final Trees trees;
        private final CompilationUnitTree unit;
        private final Map<String, Set<String>> calls = new TreeMap<>();
        private String method = "";

        Reader(Trees trees, CompilationUnitTree unit) {
            this.trees = trees;
            this.unit = unit;
        }

        private long line(Tree tree) {
            return unit.getLineMap().getLineNumber(trees.getSourcePositions().getStartPosition(unit, tree));
        }

        private void wrong(String rule, Tree tree) {
            Check.holds("rule " + rule + ", line " + line(tree), false);
        }

        @Override
        public Void scan(Tree tree, Void nothing) {
            if (tree != null && FORBIDDEN.contains(tree.getKind())) {
                wrong("2 or 6: " + tree.getKind(), tree);
            }
            return super.scan(tree, nothing);
        }

        @Override
        public Void visitClass(ClassTree tree, Void nothing) {
            int fields = 0;
            for (Tree member : tree.getMembers()) {
                if (member.getKind() == Tree.Kind.VARIABLE) {
                    Set<javax.lang.model.element.Modifier> flags = ((VariableTree) member).getModifiers().getFlags();
                    boolean constant = flags.contains(javax.lang.model.element.Modifier.STATIC);
                    if (constant && !flags.contains(javax.lang.model.element.Modifier.FINAL)) {
                        wrong("5", member);
                    }
                    fields += constant ? 0 : 1;
                }
                if (member.getKind() == Tree.Kind.BLOCK) {
                    wrong("5: an initialiser block", member);
                }
            }
            Check.holds("11: fields of " + tree.getSimpleName(), fields <= 20);
            return super.visitClass(tree, nothing);
        }

        @Override
        public Void visitMethod(MethodTree tree, Void nothing) {
            if (tree.getParameters().size() > 7) {
                wrong("11: parameters", tree);
            }
            long last = unit.getLineMap().getLineNumber(trees.getSourcePositions().getEndPosition(unit, tree));
            if (last >= line(tree) && last - line(tree) >= 60) {
                wrong("11: length", tree);
            }
            String outer = method;
            method = name(trees.getElement(getCurrentPath()));
            calls.putIfAbsent(method, new TreeSet<>());
            super.visitMethod(tree, nothing);
            method = outer;
            return null;
        }

        @Override
        public Void visitMethodInvocation(MethodInvocationTree tree, Void nothing) {
            called(trees.getElement(getCurrentPath()), tree);
            return super.visitMethodInvocation(tree, nothing);
        }

        @Override
        public Void visitNewClass(NewClassTree tree, Void nothing) {
            if (tree.getClassBody() != null) {
                wrong("2: an anonymous class", tree);
            }
            called(trees.getElement(getCurrentPath()), tree);
            return super.visitNewClass(tree, nothing);
        }

        private void called(Element element, Tree tree) {
            String name = name(element);
            if (name.startsWith("SpriteAtlas")) {
                calls.computeIfAbsent(method, m -> new TreeSet<>()).add(name);
                return;
            }
            boolean known = LIBRARY.contains(name) || LIBRARY.contains(name.substring(0, name.indexOf('(')));
            if (!known) {
                wrong("4: " + name, tree);
            }
        }

        private static String name(Element element) {
            String owner = element.getEnclosingElement().toString().replace("AbstractStringBuilder", "StringBuilder");
            return owner + "." + (element.getKind() == ElementKind.CONSTRUCTOR
                    ? element.toString().replaceFirst("^[^(]*", "<init>") : element.toString());
        }

        /** The library's own constants are not in LANGUAGE.md's list; the length of an array is no field of a class. */
        @Override
        public Void visitMemberSelect(MemberSelectTree tree, Void nothing) {
            Element element = trees.getElement(getCurrentPath());
            if (element != null && element.getKind() == ElementKind.FIELD) {
                String owner = element.getEnclosingElement().toString();
                boolean known = owner.startsWith("SpriteAtlas") || owner.equals("Array");
                if (!known) {
                    wrong("4: " + tree, tree);
                }
            }
            return super.visitMemberSelect(tree, nothing);
        }

        @Override
        public Void visitBinary(BinaryTree tree, Void nothing) {
            if (isText(tree.getLeftOperand()) || isText(tree.getRightOperand())) {
                wrong("6 or 10: texts in " + tree, tree);
            }
            return super.visitBinary(tree, nothing);
        }

        private boolean isText(ExpressionTree part) {
            TypeMirror type = trees.getTypeMirror(new TreePath(getCurrentPath(), part));
            return type != null && type.toString().equals("java.lang.String");
        }

        @Override
        public Void visitLiteral(LiteralTree tree, Void nothing) {
            if (tree.getValue() instanceof String || tree.getValue() instanceof Character) {
                for (char c : tree.getValue().toString().toCharArray()) {
                    if (c < 1 || c > 127) {
                        wrong("4: a sign beyond 127", tree);
                    }
                }
            }
            return super.visitLiteral(tree, nothing);
        }

        @Override
        public Void visitArrayType(ArrayTypeTree tree, Void nothing) {
            if (tree.getType().getKind() == Tree.Kind.ARRAY_TYPE) {
                wrong("3: this program keeps to one dimension", tree);
            }
            return super.visitArrayType(tree, nothing);
        }

        /** Rules 8 and 11: no recursion, and at most eight calls open at once. */
        void finish() {
            Map<String, Integer> depths = new HashMap<>();
            List<String> names = new ArrayList<>(calls.keySet());
            for (String name : names) {
                int depth = depth(name, depths, new ArrayList<>());
                Check.holds("11: " + depth + " calls open below " + name, depth <= 8);
            }
        }

        private int depth(String name, Map<String, Integer> depths, List<String> open) {
            if (open.contains(name)) {
                Check.holds("8: recursion " + open + " " + name, false);
                return 1;
            }
            if (depths.containsKey(name)) {
                return depths.get(name);
            }
            open.add(name);
            int most = 0;
            for (String callee : calls.getOrDefault(name, Set.of())) {
                most = Math.max(most, depth(callee, depths, open));
            }
            open.remove(name);
            depths.put(name, most + 1);
            return most + 1;
        }
    }
}
