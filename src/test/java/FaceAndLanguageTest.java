import com.sun.source.tree.*;
import com.sun.source.util.JavacTask;
import com.sun.source.util.TreeScanner;
import java.lang.reflect.Constructor;
import java.lang.reflect.Member;
import java.lang.reflect.Method;
import java.lang.reflect.Modifier;
import java.nio.file.Path;
import java.util.*;
import javax.tools.JavaCompiler;
import javax.tools.ToolProvider;

/** The public face with its exceptions, and the rules of LANGUAGE.md that the source shows. */
public final class FaceAndLanguageTest {
    private static final String SOURCE = "src/main/java/BranchQuarry.java";
    private static final Checks IS = new Checks();
    private static final String I = "IndexOutOfBoundsException";
    private static final String A = "IllegalArgumentException";
    private static final String S = "IllegalStateException";
    private static final String U = "UnsupportedOperationException";
    private static final String N = "NoSuchElementException";
    private static final String[] FACE = {
        "int addColumn int int int boolean " + A + " " + S,
        "int addRow char int int int int int " + A + " " + S,
        "int tighten " + S + " " + U,
        "int lower int " + I, "int upper int " + I, "boolean areAlike int int " + I, "int unkept " + N,
        "int begin char char " + A + " " + S, "int solve int " + A + " " + S,
        "int nodes", "int open", "char state int " + I, "int parent int " + I + " " + N,
        "int lowerAt int int " + I, "int upperAt int int " + I,
        "long value int " + I + " " + N, "long point int int " + I + " " + N, "long bound " + N,
        "boolean offer int int int int " + S, "boolean round int " + I + " " + N, "long best " + N,
        "long solution int " + I + " " + N, "int bestByAll " + U + " " + N,
        "int cutByRounding int int int " + I + " " + A + " " + S + " " + U,
        "int cutByCover int " + I + " " + N + " " + S + " " + U,
        "int cutByLikeness int int " + I + " " + A + " " + S + " " + U,
        "int cuts", "char kind int " + I, "int coefficient int int " + I, "int side int " + I,
        "int age int " + I, "int gain int boolean " + I + " " + S,
        "float gap ArithmeticException", "double meanDepth ArithmeticException"
    };
    private static final Set<String> LIBRARY = Set.of("System.arraycopy", "Math.floorDiv", "Math.floorMod",
            "Math.min", "Math.max", "Math.abs", "Integer.bitCount", "Long.compare", "Integer.compare");
    private static final Set<String> TYPES = Set.of("int", "long", "short", "byte", "char", "boolean", "double",
            "float", "int[]", "long[]", "char[]", "boolean[]", "int[][]", "long[][]");
    private static final Set<String> THROWN = Set.of(S, A, I, U, N, "ArithmeticException");

    public static void main(String[] args) throws Exception {
        face();
        room();
        Scan scan = new Scan();
        scan.scan(parse(), null);
        scan.endOfFile();
        IS.end("FaceAndLanguageTest");
    }

    private static void face() {
        Set<String> got = new TreeSet<>();
        for (Method m : BranchQuarry.class.getDeclaredMethods()) {
            if (!Modifier.isPrivate(m.getModifiers()) && !m.isSynthetic()) {
                got.add(told(m));
                IS.same(m + " is public and not static", Modifier.PUBLIC, m.getModifiers());
            }
        }
        IS.same("the public methods", new TreeSet<>(List.of(FACE)), got);
        Constructor<?>[] all = BranchQuarry.class.getDeclaredConstructors();
        IS.same("one constructor", 1, all.length);
        IS.same("it is public, without arguments or exceptions", "1 0 0", all[0].getModifiers() + " "
                + all[0].getParameterCount() + " " + all[0].getExceptionTypes().length);
        IS.same("the class is public and final", Modifier.PUBLIC | Modifier.FINAL, BranchQuarry.class.getModifiers());
        for (Member f : BranchQuarry.class.getDeclaredFields()) {
            IS.same(f + " is private", true, Modifier.isPrivate(f.getModifiers()));
        }
    }

    /** Rule 12: what an object holds, arrays and all, and that its calls add nothing to it. */
    private static void room() throws Exception {
        BranchQuarry q = Programs.two();
        long[] before = held(q);
        IS.same("rule 12: objects and arrays, " + before[0], true, before[0] < 500);
        IS.same("rule 12: fields and elements, " + before[1], true, before[1] < 3000);
        for (int k = 0; k < 60; k++) {
            q.begin(k % 2 == 0 ? 'b' : 'd', 'l');
            q.cutByRounding(0, k % 2, 2);
            q.solve(41);
            q.bestByAll();
            Checks.picture(q);
        }
        IS.same("rule 12: as much as before", before[0] + " " + before[1], held(q)[0] + " " + held(q)[1]);
    }

    /** How many objects and arrays can be reached, and how many fields and elements they have. */
    private static long[] held(Object from) throws Exception {
        Map<Object, Boolean> seen = new IdentityHashMap<>();
        Deque<Object> open = new ArrayDeque<>(List.of(from));
        seen.put(from, true);
        long places = 0;
        while (!open.isEmpty()) {
            Object next = open.pop();
            List<Object> inside = new ArrayList<>();
            if (next.getClass().isArray()) {
                for (int k = 0; k < java.lang.reflect.Array.getLength(next); k++) {
                    inside.add(java.lang.reflect.Array.get(next, k));
                }
            } else {
                for (java.lang.reflect.Field f : next.getClass().getDeclaredFields()) {
                    if (!Modifier.isStatic(f.getModifiers())) {
                        f.setAccessible(true);
                        inside.add(f.get(next));
                    }
                }
            }
            places += inside.size();
            for (Object o : inside) {
                boolean isOwn = o != null && (o.getClass().isArray() || o.getClass().getName().startsWith("BranchQuarry"));
                if (isOwn && seen.put(o, true) == null) {
                    open.push(o);
                }
            }
        }
        return new long[] {seen.size(), places};
    }

    private static String told(Method m) {
        List<String> words = new ArrayList<>(List.of(m.getReturnType().getName(), m.getName()));
        for (Class<?> p : m.getParameterTypes()) {
            words.add(p.getName());
        }
        for (Class<?> e : m.getExceptionTypes()) {
            words.add(e.getSimpleName());
        }
        return String.join(" ", words);
    }

    private static CompilationUnitTree parse() throws Exception {
        JavaCompiler compiler = ToolProvider.getSystemJavaCompiler();
        var files = compiler.getStandardFileManager(null, null, null);
        JavacTask task = (JavacTask) compiler.getTask(null, files, null, null, null,
                files.getJavaFileObjects(Path.of(SOURCE)));
        return task.parse().iterator().next();
    }

    private static final class Scan extends TreeScanner<Void, Void> {
        private final Deque<String> classes = new ArrayDeque<>();
        private final Map<String, Set<String>> calls = new TreeMap<>();
        private final Set<String> publicNames = new HashSet<>();
        private final Set<String> otherNames = new HashSet<>();
        private final Set<String> types = new TreeSet<>();
        private final Set<String> classNames = new HashSet<>();
        private String method = "";
        private int classCount;

        private void forbid(String what, Tree at) {
            String text = at.toString();
            IS.same("rule: " + what, "nothing of it", text.substring(0, Math.min(60, text.length())));
        }

        @Override
        public Void visitCompilationUnit(CompilationUnitTree unit, Void v) {
            IS.same("rule 1: no package line", true, unit.getPackage() == null);
            for (ImportTree i : unit.getImports()) {
                IS.same("rule 4: imports", "java.util." + N, i.getQualifiedIdentifier().toString());
            }
            IS.same("rule 1: one class at the top", 1, unit.getTypeDecls().size());
            return super.visitCompilationUnit(unit, v);
        }

        @Override
        public Void visitClass(ClassTree c, Void v) {
            classCount++;
            classNames.add(c.getSimpleName().toString());
            IS.same("rule 2: " + c.getSimpleName() + " stands in the class itself", true, classes.size() <= 1);
            IS.same("rule 2: no class without a name", false, c.getSimpleName().isEmpty());
            var flags = c.getModifiers().getFlags();
            if (!classes.isEmpty()) {
                IS.same("rule 1: " + c.getSimpleName() + " is static", true,
                        flags.contains(javax.lang.model.element.Modifier.STATIC));
                IS.same("rule 1: " + c.getSimpleName() + " is not public", false,
                        flags.contains(javax.lang.model.element.Modifier.PUBLIC));
            }
            int fields = 0;
            for (Tree member : c.getMembers()) {
                IS.same("rule 5: no initialiser block", false, member.getKind() == Tree.Kind.BLOCK);
                if (member instanceof VariableTree f) {
                    boolean isStatic = f.getModifiers().getFlags().contains(javax.lang.model.element.Modifier.STATIC);
                    fields += isStatic ? 0 : 1;
                    IS.same("rule 5: " + f.getName() + " is final if it is static", true, !isStatic
                            || f.getModifiers().getFlags().contains(javax.lang.model.element.Modifier.FINAL));
                }
            }
            IS.same("rule 11: " + c.getSimpleName() + " has few fields", true, fields <= 20);
            classes.push(c.getSimpleName().toString());
            // What the fields call is called by the constructor.
            method = "new " + classes.peek();
            calls.putIfAbsent(method, new TreeSet<>());
            super.visitClass(c, v);
            classes.pop();
            return null;
        }

        @Override
        public Void visitMethod(MethodTree m, Void v) {
            String name = m.getName().toString();
            IS.same("rule 11: parameters of " + name, true, m.getParameters().size() <= 7);
            long lines = m.toString().lines().count();
            IS.same("rule 11: " + name + " is short, having " + lines + " lines", true, lines <= 60);
            boolean isFace = classes.size() == 1
                    && m.getModifiers().getFlags().contains(javax.lang.model.element.Modifier.PUBLIC);
            (isFace ? publicNames : otherNames).add(name);
            method = name.equals("<init>") ? "new " + classes.peek() : name;
            calls.putIfAbsent(method, new TreeSet<>());
            super.visitMethod(m, v);
            method = "new " + classes.peek();
            return null;
        }

        @Override
        public Void visitMethodInvocation(MethodInvocationTree call, Void v) {
            String full = call.getMethodSelect().toString();
            String name = full.substring(full.lastIndexOf('.') + 1);
            if (full.indexOf('.') > 0 && Character.isUpperCase(full.charAt(0))) {
                IS.same("rule 4: " + full, true, LIBRARY.contains(full));
            }
            calls.get(method).add(name);
            return super.visitMethodInvocation(call, v);
        }

        @Override
        public Void visitNewClass(NewClassTree made, Void v) {
            String name = made.getIdentifier().toString();
            IS.same("rule 12: no call makes an object, " + made, true,
                    name.endsWith("Exception") || method.startsWith("new "));
            if (!name.endsWith("Exception") && calls.containsKey(method)) {
                calls.get(method).add("new " + name);
            }
            return super.visitNewClass(made, v);
        }

        @Override
        public Void visitNewArray(NewArrayTree made, Void v) {
            IS.same("rule 12: no call makes an array, " + made, true, method.startsWith("new "));
            return super.visitNewArray(made, v);
        }

        @Override
        public Void visitVariable(VariableTree f, Void v) {
            types.add(f.getType().toString());
            return super.visitVariable(f, v);
        }

        @Override
        public Void visitBinary(BinaryTree b, Void v) {
            boolean isText = b.getLeftOperand().getKind() == Tree.Kind.STRING_LITERAL
                    || b.getRightOperand().getKind() == Tree.Kind.STRING_LITERAL;
            IS.same("rules 6 and 10: no texts joined or compared by a sign, " + b, false, isText);
            return super.visitBinary(b, v);
        }

        @Override
        public Void visitLiteral(LiteralTree l, Void v) {
            String text = String.valueOf(l.getValue());
            IS.same("rule 4: signs from 1 to 127, " + l, true, text.chars().allMatch(c -> c >= 1 && c <= 127));
            return super.visitLiteral(l, v);
        }

        @Override
        public Void visitForLoop(ForLoopTree loop, Void v) {
            IS.same("rule 9: a counter or a chain, " + loop.getInitializer(), "1 true 1", loop.getInitializer().size()
                    + " " + (loop.getCondition() != null) + " " + loop.getUpdate().size());
            return super.visitForLoop(loop, v);
        }

        @Override
        public Void visitWhileLoop(WhileLoopTree loop, Void v) {
            String condition = loop.getCondition().toString();
            String counter = condition.replaceAll("^\\((\\w+) < .*$", "$1");
            IS.same("rule 9: a counter against a bound, " + condition, true,
                    loop.getStatement().toString().contains(counter + "++"));
            return super.visitWhileLoop(loop, v);
        }

        @Override
        public Void visitDoWhileLoop(DoWhileLoopTree loop, Void v) {
            forbid("9, do: this class needs none", loop);
            return null;
        }

        @Override
        public Void visitEnhancedForLoop(EnhancedForLoopTree loop, Void v) {
            forbid("9, for over: this class needs none", loop);
            return null;
        }

        @Override
        public Void visitInstanceOf(InstanceOfTree t, Void v) {
            forbid("6, instanceof: this class needs none", t);
            return null;
        }

        @Override
        public Void visitThrow(ThrowTree t, Void v) {
            IS.same("rule 6: no throw in a constructor", false, method.startsWith("new "));
            if (t.getExpression() instanceof NewClassTree made) {
                IS.same("rule 6: " + made, true, THROWN.contains(made.getIdentifier().toString()));
                IS.same("rule 6: a written text in " + made, true, made.getArguments().size() == 1
                        && made.getArguments().get(0).getKind() == Tree.Kind.STRING_LITERAL);
            } else {
                forbid("6, throw", t);
            }
            return super.visitThrow(t, v);
        }

        @Override
        public Void visitMemberSelect(MemberSelectTree m, Void v) {
            String owner = m.getExpression().toString();
            boolean isConstant = m.getIdentifier().toString().matches("[A-Z_]+");
            if (isConstant && Set.of("Integer", "Long", "Math", "Double", "Float").contains(owner)) {
                forbid("4, a constant of the library", m);
            }
            return super.visitMemberSelect(m, v);
        }

        @Override
        public Void visitLambdaExpression(LambdaExpressionTree t, Void v) {
            forbid("2, lambda", t);
            return null;
        }

        @Override
        public Void visitMemberReference(MemberReferenceTree t, Void v) {
            forbid("2, method reference", t);
            return null;
        }

        @Override
        public Void visitTry(TryTree t, Void v) {
            forbid("6, try: this class needs none", t);
            return null;
        }

        @Override
        public Void visitAssert(AssertTree t, Void v) {
            forbid("6, assert", t);
            return null;
        }

        @Override
        public Void visitSynchronized(SynchronizedTree t, Void v) {
            forbid("6, synchronized", t);
            return null;
        }

        @Override
        public Void visitTypeCast(TypeCastTree t, Void v) {
            IS.same("rule 7: casts of numbers alone", true, t.getType().getKind() == Tree.Kind.PRIMITIVE_TYPE);
            return super.visitTypeCast(t, v);
        }

        private void endOfFile() {
            IS.same("rule 11: few classes", true, classCount <= 12);
            for (String name : List.of("equals", "hashCode", "toString", "finalize", "clone")) {
                IS.same("rule 6: no " + name, false, publicNames.contains(name) || otherNames.contains(name));
            }
            types.removeAll(TYPES);
            for (String type : types) {
                String own = type.replace("[]", "");
                IS.same("rule 3: the type " + type, true, classNames.contains(own) && !type.contains("[][]"));
            }
            otherNames.retainAll(publicNames);
            otherNames.remove("<init>");
            IS.same("rule 1: no other method bears a public name", Set.of(), otherNames);
            for (String name : publicNames) {
                IS.same("rule 11: calls under " + name + " go eight deep at most", true, depth(name, 0) <= 8);
            }
        }

        private int depth(String name, int above) {
            if (above > 20) {
                return 100;
            }
            int deepest = 0;
            for (String called : calls.getOrDefault(name, Set.of())) {
                deepest = Math.max(deepest, depth(called, above + 1));
            }
            return deepest + 1;
        }
    }
}
