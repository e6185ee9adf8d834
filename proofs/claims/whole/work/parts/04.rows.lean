/-! Rows of the pure machine: 'G pc env st σ' is a judgement of the machine in some context; each row turns it at an instruction into it behind the instruction. -/
theorem pm_kx.moved {K : pm_K} {s U : State} {H : Heap} (hW : s.WarmedH U.vm) (h : pm_kx K s H) : pm_kx K U H := by
  obtain ⟨h1, h2, h3, h4, ⟨h5, h5'⟩, h6, h7, ⟨h8, v8, h8'⟩, h9, h10⟩ := h
  have hal := hW.alike
  exact ⟨va_K.moved hal h1, fun q hq => (h2 q hq).warmM hW, fun q hq => (h3 q hq).warmC hW, fun q hq => (h4 q hq).moved hal, ⟨h5.moved hal, h5'.moved hal⟩, fun i q hq => (h6 i q hq).warm hW, h7.moved hal, ⟨h8.moved hal, v8, h8'.moved hal⟩, h9.moved hal, h10⟩
theorem pm_kx.same {K : pm_K} {s U : State} {H : Heap} (hv : U.vm = s.vm) (h : pm_kx K s H) : pm_kx K U H := by
  obtain ⟨h1, h2, h3, h4, ⟨h5, h5'⟩, h6, h7, ⟨h8, v8, h8'⟩, h9, h10⟩ := h
  have hal : s.vm.Alike U.vm := by rw [hv]; exact Vm.Alike.refl _
  exact ⟨va_K.moved hal h1, fun q hq => (h2 q hq).same rfl hv.symm, fun q hq => (h3 q hq).same rfl hv.symm, fun q hq => (h4 q hq).moved hal, ⟨h5.moved hal, h5'.moved hal⟩, fun i q hq => (h6 i q hq).same hv, h7.moved hal, ⟨h8.moved hal, v8, h8'.moved hal⟩, h9.moved hal, h10⟩
theorem pm_kx.kept {K : pm_K} {U : State} {H H' : Heap} (h : pm_kx K U H) (hq : ∀ q, q < kB K → H'[q]? = H[q]?) (hs : kB K ≤ H'.size) : pm_kx K U H' := by
  obtain ⟨h1, h2, h3, h4, h5, h6, h7, ⟨h8, v8, h8'⟩, h9, h10, h11, h12⟩ := h
  have hk : ∀ a : Nat, a < H.size → ¬ (fun q => kB K ≤ q) a → H'[a]? = H[a]? := fun a _ hn => hq a (Nat.not_le.mp hn)
  exact ⟨h1, h2, h3, h4, h5, h6, h7.kept hk, ⟨h8.kept hk, v8, h8'.kept hk⟩, h9.kept (hq _ (h10 10 (by decide))), h10, h11, hs⟩
/-- the locals hold the environment; .float marks what isn't held -/
def pm_env (K : pm_K) (env : List Value) (ls : Array Slot) (nL : Nat) : Prop := ls.size = nL ∧ lv_wf ls ∧ env.length = nL ∧ ∀ (k : Nat) (v : Value), env[k]? = some v → (∀ w, v ≠ .float w) → ls[k]? = some (.val (em K v))
def pm_gd (K : pm_K) (p : Program) (l : Launch) (e : Env) (R : Room) (s : State) (m : MethodId) (args : Array Value) (below : List Frame) (meth : Method) (c : Code) (Q : State → Prop) (nL n0 s0 : Nat) (pc : Nat) (env st : List Value) (σ : pm_H) : Prop :=
  ∀ (H : Heap) (locs : List Loc) (ls : Array Slot), n0 ≤ pN σ → s0 ≤ pS σ → pm_ok K σ H → (∀ q, q < kB K → H[q]? = s.heap[q]?) → (∀ q ∈ locs, kB K ≤ q.base) → pm_env K env ls nL → W p l e R s m args below meth c H locs (pN σ - n0) (pS σ - s0) Q (F0 m pc ls (st.map (em K)))
def pm_cx (K : pm_K) (p : Program) (s : State) (m : MethodId) (args : Array Value) (meth : Method) (c : Code) (cc : ByteArray) (y : MethodName) (nL : Nat) : Prop :=
  p.tables.exec = Jvm.exec ∧ c.code = cc ∧ c.maxLocals = nL ∧ s.vm.findClass y.cls = some m.cls ∧ (∀ w ∈ gws, w.before args s = true) ∧ pm_kx K s s.heap ∧ (y.name = "<init>" → meth.name = "<init>")
abbrev pm_J : Type := Nat → List Value → List Value → pm_H → Prop
def pm_G (cc : ByteArray) (y : MethodName) (nL rk lim lims : Nat) (G : pm_J) (Ret : Option Value → pm_H → Prop) : Prop :=
  (∃ (K : pm_K) (p : Program) (l : Launch) (e : Env) (R : Room) (s : State) (m : MethodId) (args : Array Value) (below : List Frame) (meth : Method) (c : Code) (Q : State → Prop) (n0 s0 : Nat),
    pm_cx K p s m args meth c cc y nL ∧ rk ≤ R.frames ∧ 29 * rk ≤ R.locals ∧ lim = n0 + R.cells ∧ lims = s0 + R.slots ∧ G = pm_gd K p l e R s m args below meth c Q nL n0 s0) ∧
  (∀ pc env v σ, decode cc pc = .ok (.ireturn, 1) → Ret (some (.int v)) σ → G pc env [.int v] σ) ∧
  (∀ pc env v σ, decode cc pc = .ok (.lreturn, 1) → Ret (some (.long v)) σ → G pc env [.long v] σ) ∧
  (∀ pc env v σ, decode cc pc = .ok (.areturn, 1) → Ret (some (va_rf v)) σ → G pc env [va_rf v] σ) ∧
  (∀ pc env σ, decode cc pc = .ok (.return_, 1) → Ret none σ → G pc env [] σ)
section PMROWS
variable {cc : ByteArray} {y : MethodName} {nL rk lim lims : Nat} {G : pm_J} {Ret : Option Value → pm_H → Prop} {pc : Nat} {env st : List Value} {σ : pm_H}
theorem rw_iadd (hG : pm_G cc y nL rk lim lims G Ret) {x y2 : Int32} (d : decode cc pc = .ok (.iadd, 1)) (k : G (pc + 1) env (.int (x + y2) :: st) σ) : G pc env (.int y2 :: .int x :: st) σ := by
  obtain ⟨⟨K, p, l, e, R, s, m, args, below, meth, c, Q, n0, s0, ⟨hx, hb, hml, hown, hts, hkx, hin⟩, hfr, hlo, hlim, hlims, rfl⟩, -⟩ := hG
  intro H locs ls h1 h2 h3 h4 h5 h6
  exact lv_iadd hx hb d (k H locs ls h1 h2 h3 h4 h5 h6)
theorem rw_isub (hG : pm_G cc y nL rk lim lims G Ret) {x y2 : Int32} (d : decode cc pc = .ok (.isub, 1)) (k : G (pc + 1) env (.int (x - y2) :: st) σ) : G pc env (.int y2 :: .int x :: st) σ := by
  obtain ⟨⟨K, p, l, e, R, s, m, args, below, meth, c, Q, n0, s0, ⟨hx, hb, hml, hown, hts, hkx, hin⟩, hfr, hlo, hlim, hlims, rfl⟩, -⟩ := hG
  intro H locs ls h1 h2 h3 h4 h5 h6
  exact lv_isub hx hb d (k H locs ls h1 h2 h3 h4 h5 h6)
theorem rw_imul (hG : pm_G cc y nL rk lim lims G Ret) {x y2 : Int32} (d : decode cc pc = .ok (.imul, 1)) (k : G (pc + 1) env (.int (x * y2) :: st) σ) : G pc env (.int y2 :: .int x :: st) σ := by
  obtain ⟨⟨K, p, l, e, R, s, m, args, below, meth, c, Q, n0, s0, ⟨hx, hb, hml, hown, hts, hkx, hin⟩, hfr, hlo, hlim, hlims, rfl⟩, -⟩ := hG
  intro H locs ls h1 h2 h3 h4 h5 h6
  exact lv_imul hx hb d (k H locs ls h1 h2 h3 h4 h5 h6)
theorem rw_iand (hG : pm_G cc y nL rk lim lims G Ret) {x y2 : Int32} (d : decode cc pc = .ok (.iand, 1)) (k : G (pc + 1) env (.int (x &&& y2) :: st) σ) : G pc env (.int y2 :: .int x :: st) σ := by
  obtain ⟨⟨K, p, l, e, R, s, m, args, below, meth, c, Q, n0, s0, ⟨hx, hb, hml, hown, hts, hkx, hin⟩, hfr, hlo, hlim, hlims, rfl⟩, -⟩ := hG
  intro H locs ls h1 h2 h3 h4 h5 h6
  exact lv_iand hx hb d (k H locs ls h1 h2 h3 h4 h5 h6)
theorem rw_ior (hG : pm_G cc y nL rk lim lims G Ret) {x y2 : Int32} (d : decode cc pc = .ok (.ior, 1)) (k : G (pc + 1) env (.int (x ||| y2) :: st) σ) : G pc env (.int y2 :: .int x :: st) σ := by
  obtain ⟨⟨K, p, l, e, R, s, m, args, below, meth, c, Q, n0, s0, ⟨hx, hb, hml, hown, hts, hkx, hin⟩, hfr, hlo, hlim, hlims, rfl⟩, -⟩ := hG
  intro H locs ls h1 h2 h3 h4 h5 h6
  exact lv_ior hx hb d (k H locs ls h1 h2 h3 h4 h5 h6)
theorem rw_ixor (hG : pm_G cc y nL rk lim lims G Ret) {x y2 : Int32} (d : decode cc pc = .ok (.ixor, 1)) (k : G (pc + 1) env (.int (x ^^^ y2) :: st) σ) : G pc env (.int y2 :: .int x :: st) σ := by
  obtain ⟨⟨K, p, l, e, R, s, m, args, below, meth, c, Q, n0, s0, ⟨hx, hb, hml, hown, hts, hkx, hin⟩, hfr, hlo, hlim, hlims, rfl⟩, -⟩ := hG
  intro H locs ls h1 h2 h3 h4 h5 h6
  exact lv_ixor hx hb d (k H locs ls h1 h2 h3 h4 h5 h6)
theorem rw_ishl (hG : pm_G cc y nL rk lim lims G Ret) {x y2 : Int32} (d : decode cc pc = .ok (.ishl, 1)) (k : G (pc + 1) env (.int (x <<< (y2 &&& 31)) :: st) σ) : G pc env (.int y2 :: .int x :: st) σ := by
  obtain ⟨⟨K, p, l, e, R, s, m, args, below, meth, c, Q, n0, s0, ⟨hx, hb, hml, hown, hts, hkx, hin⟩, hfr, hlo, hlim, hlims, rfl⟩, -⟩ := hG
  intro H locs ls h1 h2 h3 h4 h5 h6
  exact lv_ishl hx hb d (k H locs ls h1 h2 h3 h4 h5 h6)
theorem rw_ishr (hG : pm_G cc y nL rk lim lims G Ret) {x y2 : Int32} (d : decode cc pc = .ok (.ishr, 1)) (k : G (pc + 1) env (.int (x >>> (y2 &&& 31)) :: st) σ) : G pc env (.int y2 :: .int x :: st) σ := by
  obtain ⟨⟨K, p, l, e, R, s, m, args, below, meth, c, Q, n0, s0, ⟨hx, hb, hml, hown, hts, hkx, hin⟩, hfr, hlo, hlim, hlims, rfl⟩, -⟩ := hG
  intro H locs ls h1 h2 h3 h4 h5 h6
  exact lv_ishr hx hb d (k H locs ls h1 h2 h3 h4 h5 h6)
theorem rw_iushr (hG : pm_G cc y nL rk lim lims G Ret) {x y2 : Int32} (d : decode cc pc = .ok (.iushr, 1)) (k : G (pc + 1) env (.int (x.toUInt32 >>> (y2.toUInt32 &&& Int32.toUInt32 31)).toInt32 :: st) σ) : G pc env (.int y2 :: .int x :: st) σ := by
  obtain ⟨⟨K, p, l, e, R, s, m, args, below, meth, c, Q, n0, s0, ⟨hx, hb, hml, hown, hts, hkx, hin⟩, hfr, hlo, hlim, hlims, rfl⟩, -⟩ := hG
  intro H locs ls h1 h2 h3 h4 h5 h6
  exact lv_iushr hx hb d rfl (k H locs ls h1 h2 h3 h4 h5 h6)
theorem rw_idiv (hG : pm_G cc y nL rk lim lims G Ret) {x y2 : Int32} (d : decode cc pc = .ok (.idiv, 1)) (hn : ¬ y2 = 0) (k : G (pc + 1) env (.int (x / y2) :: st) σ) : G pc env (.int y2 :: .int x :: st) σ := by
  obtain ⟨⟨K, p, l, e, R, s, m, args, below, meth, c, Q, n0, s0, ⟨hx, hb, hml, hown, hts, hkx, hin⟩, hfr, hlo, hlim, hlims, rfl⟩, -⟩ := hG
  intro H locs ls h1 h2 h3 h4 h5 h6
  exact lv_idiv hx hb d hn (k H locs ls h1 h2 h3 h4 h5 h6)
theorem rw_irem (hG : pm_G cc y nL rk lim lims G Ret) {x y2 : Int32} (d : decode cc pc = .ok (.irem, 1)) (hn : ¬ y2 = 0) (k : G (pc + 1) env (.int (x - x / y2 * y2) :: st) σ) : G pc env (.int y2 :: .int x :: st) σ := by
  obtain ⟨⟨K, p, l, e, R, s, m, args, below, meth, c, Q, n0, s0, ⟨hx, hb, hml, hown, hts, hkx, hin⟩, hfr, hlo, hlim, hlims, rfl⟩, -⟩ := hG
  intro H locs ls h1 h2 h3 h4 h5 h6
  exact lv_irem hx hb d hn (k H locs ls h1 h2 h3 h4 h5 h6)
theorem rw_ladd (hG : pm_G cc y nL rk lim lims G Ret) {x y2 : Int64} (d : decode cc pc = .ok (.ladd, 1)) (k : G (pc + 1) env (.long (x + y2) :: st) σ) : G pc env (.long y2 :: .long x :: st) σ := by
  obtain ⟨⟨K, p, l, e, R, s, m, args, below, meth, c, Q, n0, s0, ⟨hx, hb, hml, hown, hts, hkx, hin⟩, hfr, hlo, hlim, hlims, rfl⟩, -⟩ := hG
  intro H locs ls h1 h2 h3 h4 h5 h6
  exact lv_ladd hx hb d (k H locs ls h1 h2 h3 h4 h5 h6)
theorem rw_lsub (hG : pm_G cc y nL rk lim lims G Ret) {x y2 : Int64} (d : decode cc pc = .ok (.lsub, 1)) (k : G (pc + 1) env (.long (x - y2) :: st) σ) : G pc env (.long y2 :: .long x :: st) σ := by
  obtain ⟨⟨K, p, l, e, R, s, m, args, below, meth, c, Q, n0, s0, ⟨hx, hb, hml, hown, hts, hkx, hin⟩, hfr, hlo, hlim, hlims, rfl⟩, -⟩ := hG
  intro H locs ls h1 h2 h3 h4 h5 h6
  exact lv_lsub hx hb d (k H locs ls h1 h2 h3 h4 h5 h6)
theorem rw_lmul (hG : pm_G cc y nL rk lim lims G Ret) {x y2 : Int64} (d : decode cc pc = .ok (.lmul, 1)) (k : G (pc + 1) env (.long (x * y2) :: st) σ) : G pc env (.long y2 :: .long x :: st) σ := by
  obtain ⟨⟨K, p, l, e, R, s, m, args, below, meth, c, Q, n0, s0, ⟨hx, hb, hml, hown, hts, hkx, hin⟩, hfr, hlo, hlim, hlims, rfl⟩, -⟩ := hG
  intro H locs ls h1 h2 h3 h4 h5 h6
  exact lv_lmul hx hb d (k H locs ls h1 h2 h3 h4 h5 h6)
theorem rw_land (hG : pm_G cc y nL rk lim lims G Ret) {x y2 : Int64} (d : decode cc pc = .ok (.land, 1)) (k : G (pc + 1) env (.long (x &&& y2) :: st) σ) : G pc env (.long y2 :: .long x :: st) σ := by
  obtain ⟨⟨K, p, l, e, R, s, m, args, below, meth, c, Q, n0, s0, ⟨hx, hb, hml, hown, hts, hkx, hin⟩, hfr, hlo, hlim, hlims, rfl⟩, -⟩ := hG
  intro H locs ls h1 h2 h3 h4 h5 h6
  exact lv_land hx hb d (k H locs ls h1 h2 h3 h4 h5 h6)
theorem rw_lor (hG : pm_G cc y nL rk lim lims G Ret) {x y2 : Int64} (d : decode cc pc = .ok (.lor, 1)) (k : G (pc + 1) env (.long (x ||| y2) :: st) σ) : G pc env (.long y2 :: .long x :: st) σ := by
  obtain ⟨⟨K, p, l, e, R, s, m, args, below, meth, c, Q, n0, s0, ⟨hx, hb, hml, hown, hts, hkx, hin⟩, hfr, hlo, hlim, hlims, rfl⟩, -⟩ := hG
  intro H locs ls h1 h2 h3 h4 h5 h6
  exact lv_lor hx hb d (k H locs ls h1 h2 h3 h4 h5 h6)
theorem rw_lshl (hG : pm_G cc y nL rk lim lims G Ret) {x : Int64} {y2 : Int32} (d : decode cc pc = .ok (.lshl, 1)) (k : G (pc + 1) env (.long (x <<< (y2.toInt64 &&& 63)) :: st) σ) : G pc env (.int y2 :: .long x :: st) σ := by
  obtain ⟨⟨K, p, l, e, R, s, m, args, below, meth, c, Q, n0, s0, ⟨hx, hb, hml, hown, hts, hkx, hin⟩, hfr, hlo, hlim, hlims, rfl⟩, -⟩ := hG
  intro H locs ls h1 h2 h3 h4 h5 h6
  exact lv_lshl hx hb d rfl (k H locs ls h1 h2 h3 h4 h5 h6)
theorem rw_lshr (hG : pm_G cc y nL rk lim lims G Ret) {x : Int64} {y2 : Int32} (d : decode cc pc = .ok (.lshr, 1)) (k : G (pc + 1) env (.long (x >>> (y2.toInt64 &&& 63)) :: st) σ) : G pc env (.int y2 :: .long x :: st) σ := by
  obtain ⟨⟨K, p, l, e, R, s, m, args, below, meth, c, Q, n0, s0, ⟨hx, hb, hml, hown, hts, hkx, hin⟩, hfr, hlo, hlim, hlims, rfl⟩, -⟩ := hG
  intro H locs ls h1 h2 h3 h4 h5 h6
  exact lv_lshr hx hb d rfl (k H locs ls h1 h2 h3 h4 h5 h6)
theorem rw_lushr (hG : pm_G cc y nL rk lim lims G Ret) {x : Int64} {y2 : Int32} (d : decode cc pc = .ok (.lushr, 1)) (k : G (pc + 1) env (.long (x.toUInt64 >>> (y2.toInt64.toUInt64 &&& Int64.toUInt64 63)).toInt64 :: st) σ) : G pc env (.int y2 :: .long x :: st) σ := by
  obtain ⟨⟨K, p, l, e, R, s, m, args, below, meth, c, Q, n0, s0, ⟨hx, hb, hml, hown, hts, hkx, hin⟩, hfr, hlo, hlim, hlims, rfl⟩, -⟩ := hG
  intro H locs ls h1 h2 h3 h4 h5 h6
  exact lv_lushr hx hb d rfl (k H locs ls h1 h2 h3 h4 h5 h6)
theorem rw_lcmp (hG : pm_G cc y nL rk lim lims G Ret) {x y2 : Int64} (d : decode cc pc = .ok (.lcmp, 1)) (k : G (pc + 1) env (.int (lg_cmp x y2) :: st) σ) : G pc env (.long y2 :: .long x :: st) σ := by
  obtain ⟨⟨K, p, l, e, R, s, m, args, below, meth, c, Q, n0, s0, ⟨hx, hb, hml, hown, hts, hkx, hin⟩, hfr, hlo, hlim, hlims, rfl⟩, -⟩ := hG
  intro H locs ls h1 h2 h3 h4 h5 h6
  exact W.lcmp hx hb d (k H locs ls h1 h2 h3 h4 h5 h6)
theorem rw_i2l (hG : pm_G cc y nL rk lim lims G Ret) {x : Int32} (d : decode cc pc = .ok (.i2l, 1)) (k : G (pc + 1) env (.long (x.toInt64) :: st) σ) : G pc env (.int x :: st) σ := by
  obtain ⟨⟨K, p, l, e, R, s, m, args, below, meth, c, Q, n0, s0, ⟨hx, hb, hml, hown, hts, hkx, hin⟩, hfr, hlo, hlim, hlims, rfl⟩, -⟩ := hG
  intro H locs ls h1 h2 h3 h4 h5 h6
  exact lv_i2l hx hb d rfl (k H locs ls h1 h2 h3 h4 h5 h6)
theorem rw_l2i (hG : pm_G cc y nL rk lim lims G Ret) {x : Int64} (d : decode cc pc = .ok (.l2i, 1)) (k : G (pc + 1) env (.int (x.toInt32) :: st) σ) : G pc env (.long x :: st) σ := by
  obtain ⟨⟨K, p, l, e, R, s, m, args, below, meth, c, Q, n0, s0, ⟨hx, hb, hml, hown, hts, hkx, hin⟩, hfr, hlo, hlim, hlims, rfl⟩, -⟩ := hG
  intro H locs ls h1 h2 h3 h4 h5 h6
  exact lv_l2i hx hb d rfl (k H locs ls h1 h2 h3 h4 h5 h6)
theorem rw_i2b (hG : pm_G cc y nL rk lim lims G Ret) {x : Int32} (d : decode cc pc = .ok (.i2b, 1)) (k : G (pc + 1) env (.int (x.toInt8.toInt32) :: st) σ) : G pc env (.int x :: st) σ := by
  obtain ⟨⟨K, p, l, e, R, s, m, args, below, meth, c, Q, n0, s0, ⟨hx, hb, hml, hown, hts, hkx, hin⟩, hfr, hlo, hlim, hlims, rfl⟩, -⟩ := hG
  intro H locs ls h1 h2 h3 h4 h5 h6
  exact lv_i2b hx hb d rfl (k H locs ls h1 h2 h3 h4 h5 h6)
theorem rw_i2s (hG : pm_G cc y nL rk lim lims G Ret) {x : Int32} (d : decode cc pc = .ok (.i2s, 1)) (k : G (pc + 1) env (.int (x.toInt16.toInt32) :: st) σ) : G pc env (.int x :: st) σ := by
  obtain ⟨⟨K, p, l, e, R, s, m, args, below, meth, c, Q, n0, s0, ⟨hx, hb, hml, hown, hts, hkx, hin⟩, hfr, hlo, hlim, hlims, rfl⟩, -⟩ := hG
  intro H locs ls h1 h2 h3 h4 h5 h6
  exact lv_i2s hx hb d rfl (k H locs ls h1 h2 h3 h4 h5 h6)
theorem rw_i2c (hG : pm_G cc y nL rk lim lims G Ret) {x : Int32} (d : decode cc pc = .ok (.i2c, 1)) (k : G (pc + 1) env (.int ((x.toUInt32 % 65536).toInt32) :: st) σ) : G pc env (.int x :: st) σ := by
  obtain ⟨⟨K, p, l, e, R, s, m, args, below, meth, c, Q, n0, s0, ⟨hx, hb, hml, hown, hts, hkx, hin⟩, hfr, hlo, hlim, hlims, rfl⟩, -⟩ := hG
  intro H locs ls h1 h2 h3 h4 h5 h6
  exact lv_i2c hx hb d rfl (k H locs ls h1 h2 h3 h4 h5 h6)
theorem rw_iconst (hG : pm_G cc y nL rk lim lims G Ret) {n : Int} (d : decode cc pc = .ok (.iconst n, 1)) (k : G (pc + 1) env (.int (Int32.ofInt n) :: st) σ) : G pc env (st) σ := by
  obtain ⟨⟨K, p, l, e, R, s, m, args, below, meth, c, Q, n0, s0, ⟨hx, hb, hml, hown, hts, hkx, hin⟩, hfr, hlo, hlim, hlims, rfl⟩, -⟩ := hG
  intro H locs ls h1 h2 h3 h4 h5 h6
  exact lv_iconst hx hb d rfl (k H locs ls h1 h2 h3 h4 h5 h6)
theorem rw_bipush (hG : pm_G cc y nL rk lim lims G Ret) {n : Int} (d : decode cc pc = .ok (.bipush n, 2)) (k : G (pc + 2) env (.int (Int8.ofInt n).toInt32 :: st) σ) : G pc env (st) σ := by
  obtain ⟨⟨K, p, l, e, R, s, m, args, below, meth, c, Q, n0, s0, ⟨hx, hb, hml, hown, hts, hkx, hin⟩, hfr, hlo, hlim, hlims, rfl⟩, -⟩ := hG
  intro H locs ls h1 h2 h3 h4 h5 h6
  exact lv_bipush hx hb d rfl (k H locs ls h1 h2 h3 h4 h5 h6)
theorem rw_sipush (hG : pm_G cc y nL rk lim lims G Ret) {n : Int} (d : decode cc pc = .ok (.sipush n, 3)) (k : G (pc + 3) env (.int (Int16.ofInt n).toInt32 :: st) σ) : G pc env (st) σ := by
  obtain ⟨⟨K, p, l, e, R, s, m, args, below, meth, c, Q, n0, s0, ⟨hx, hb, hml, hown, hts, hkx, hin⟩, hfr, hlo, hlim, hlims, rfl⟩, -⟩ := hG
  intro H locs ls h1 h2 h3 h4 h5 h6
  exact lv_sipush hx hb d rfl (k H locs ls h1 h2 h3 h4 h5 h6)
theorem rw_lconst (hG : pm_G cc y nL rk lim lims G Ret) {n : Fin 2} (d : decode cc pc = .ok (.lconst n, 1)) (k : G (pc + 1) env (.long (Int64.ofNat (n : Nat)) :: st) σ) : G pc env (st) σ := by
  obtain ⟨⟨K, p, l, e, R, s, m, args, below, meth, c, Q, n0, s0, ⟨hx, hb, hml, hown, hts, hkx, hin⟩, hfr, hlo, hlim, hlims, rfl⟩, -⟩ := hG
  intro H locs ls h1 h2 h3 h4 h5 h6
  exact lv_lconst hx hb d rfl (k H locs ls h1 h2 h3 h4 h5 h6)
theorem rw_null (hG : pm_G cc y nL rk lim lims G Ret)  (d : decode cc pc = .ok (.aconst_null, 1)) (k : G (pc + 1) env (.null :: st) σ) : G pc env (st) σ := by
  obtain ⟨⟨K, p, l, e, R, s, m, args, below, meth, c, Q, n0, s0, ⟨hx, hb, hml, hown, hts, hkx, hin⟩, hfr, hlo, hlim, hlims, rfl⟩, -⟩ := hG
  intro H locs ls h1 h2 h3 h4 h5 h6
  exact lv_null hx hb d (k H locs ls h1 h2 h3 h4 h5 h6)
theorem rw_ldc (hG : pm_G cc y nL rk lim lims G Ret) {i : Nat} {v : Int32} (d : decode cc pc = .ok (.ldc i, 2)) (hc : Cond.constant y.cls i v ∈ gws) (k : G (pc + 2) env (.int v :: st) σ) : G pc env (st) σ := by
  obtain ⟨⟨K, p, l, e, R, s, m, args, below, meth, c, Q, n0, s0, ⟨hx, hb, hml, hown, hts, hkx, hin⟩, hfr, hlo, hlim, hlims, rfl⟩, -⟩ := hG
  intro H locs ls h1 h2 h3 h4 h5 h6
  exact lv_ldc hx hb hown (hts _ hc) d (k H locs ls h1 h2 h3 h4 h5 h6)
theorem rw_ldcw (hG : pm_G cc y nL rk lim lims G Ret) {i : Nat} {v : Int32} (d : decode cc pc = .ok (.ldc_w i, 3)) (hc : Cond.constant y.cls i v ∈ gws) (k : G (pc + 3) env (.int v :: st) σ) : G pc env (st) σ := by
  obtain ⟨⟨K, p, l, e, R, s, m, args, below, meth, c, Q, n0, s0, ⟨hx, hb, hml, hown, hts, hkx, hin⟩, hfr, hlo, hlim, hlims, rfl⟩, -⟩ := hG
  intro H locs ls h1 h2 h3 h4 h5 h6
  exact lv_ldcw hx hb hown (hts _ hc) d (k H locs ls h1 h2 h3 h4 h5 h6)
theorem rw_ldc2 (hG : pm_G cc y nL rk lim lims G Ret) {i : Nat} {v : Int64} (d : decode cc pc = .ok (.ldc2_w i, 3)) (hc : Cond.constantLong y.cls i v ∈ gws) (k : G (pc + 3) env (.long v :: st) σ) : G pc env (st) σ := by
  obtain ⟨⟨K, p, l, e, R, s, m, args, below, meth, c, Q, n0, s0, ⟨hx, hb, hml, hown, hts, hkx, hin⟩, hfr, hlo, hlim, hlims, rfl⟩, -⟩ := hG
  intro H locs ls h1 h2 h3 h4 h5 h6
  exact lv_ldc2 hx hb hown (hts _ hc) d (k H locs ls h1 h2 h3 h4 h5 h6)
theorem rw_ldcs (hG : pm_G cc y nL rk lim lims G Ret) {i j : Nat} {t : String} (d : decode cc pc = .ok (.ldc j, 2)) (hy : y.cls = RX7) (hc : pm_txt[i]? = some (j, t)) (k : G (pc + 2) env (.ref i :: st) σ) : G pc env (st) σ := by
  obtain ⟨⟨K, p, l, e, R, s, m, args, below, meth, c, Q, n0, s0, ⟨hx, hb, hml, hown, hts, hkx, hin⟩, hfr, hlo, hlim, hlims, rfl⟩, -⟩ := hG
  intro H locs ls h1 h2 h3 h4 h5 h6
  exact va_ldcS hx hb hown (by rw [hy]; exact hkx.2.2.2.2.2.1 i _ hc) d (k H locs ls h1 h2 h3 h4 h5 h6)
theorem rw_iload_n (hG : pm_G cc y nL rk lim lims G Ret) {k : Fin 4} {x : Int32} (d : decode cc pc = .ok (.iload_n k, 1)) (hv : env[(k : Nat)]? = some (.int x)) (k : G (pc + 1) env (.int x :: st) σ) : G pc env (st) σ := by
  obtain ⟨⟨K, p, l, e, R, s, m, args, below, meth, c, Q, n0, s0, ⟨hx, hb, hml, hown, hts, hkx, hin⟩, hfr, hlo, hlim, hlims, rfl⟩, -⟩ := hG
  intro H locs ls h1 h2 h3 h4 h5 h6
  exact lv_iload_n hx hb d rfl (h6.2.2.2 _ _ hv (fun w h => by cases h)) (k H locs ls h1 h2 h3 h4 h5 h6)
theorem rw_lload_n (hG : pm_G cc y nL rk lim lims G Ret) {k : Fin 4} {x : Int64} (d : decode cc pc = .ok (.lload_n k, 1)) (hv : env[(k : Nat)]? = some (.long x)) (k : G (pc + 1) env (.long x :: st) σ) : G pc env (st) σ := by
  obtain ⟨⟨K, p, l, e, R, s, m, args, below, meth, c, Q, n0, s0, ⟨hx, hb, hml, hown, hts, hkx, hin⟩, hfr, hlo, hlim, hlims, rfl⟩, -⟩ := hG
  intro H locs ls h1 h2 h3 h4 h5 h6
  exact lv_lload_n hx hb d rfl (h6.2.2.2 _ _ hv (fun w h => by cases h)) (k H locs ls h1 h2 h3 h4 h5 h6)
theorem rw_iload (hG : pm_G cc y nL rk lim lims G Ret) {i : Nat} {x : Int32} (d : decode cc pc = .ok (.iload i, 2)) (hv : env[i]? = some (.int x)) (k : G (pc + 2) env (.int x :: st) σ) : G pc env (st) σ := by
  obtain ⟨⟨K, p, l, e, R, s, m, args, below, meth, c, Q, n0, s0, ⟨hx, hb, hml, hown, hts, hkx, hin⟩, hfr, hlo, hlim, hlims, rfl⟩, -⟩ := hG
  intro H locs ls h1 h2 h3 h4 h5 h6
  exact lv_iload hx hb d (h6.2.2.2 _ _ hv (fun w h => by cases h)) (k H locs ls h1 h2 h3 h4 h5 h6)
theorem rw_lload (hG : pm_G cc y nL rk lim lims G Ret) {i : Nat} {x : Int64} (d : decode cc pc = .ok (.lload i, 2)) (hv : env[i]? = some (.long x)) (k : G (pc + 2) env (.long x :: st) σ) : G pc env (st) σ := by
  obtain ⟨⟨K, p, l, e, R, s, m, args, below, meth, c, Q, n0, s0, ⟨hx, hb, hml, hown, hts, hkx, hin⟩, hfr, hlo, hlim, hlims, rfl⟩, -⟩ := hG
  intro H locs ls h1 h2 h3 h4 h5 h6
  exact lv_lload hx hb d (h6.2.2.2 _ _ hv (fun w h => by cases h)) (k H locs ls h1 h2 h3 h4 h5 h6)
theorem rw_aload_n (hG : pm_G cc y nL rk lim lims G Ret) {k : Fin 4} {r : Option Nat} (d : decode cc pc = .ok (.aload_n k, 1)) (hv : env[(k : Nat)]? = some (va_rf r)) (k : G (pc + 1) env (va_rf r :: st) σ) : G pc env st σ := by
  obtain ⟨⟨K, p, l, e, R, s, m, args, below, meth, c, Q, n0, s0, ⟨hx, hb, hml, hown, hts, hkx, hin⟩, hfr, hlo, hlim, hlims, rfl⟩, -⟩ := hG
  intro H locs ls h1 h2 h3 h4 h5 h6
  cases r with
  | none => exact lv_aload_nN hx hb d rfl (h6.2.2.2 _ _ hv (fun w h => by cases h)) (k H locs ls h1 h2 h3 h4 h5 h6)
  | some a => exact lv_aload_n hx hb d rfl (h6.2.2.2 _ _ hv (fun w h => by cases h)) (k H locs ls h1 h2 h3 h4 h5 h6)
theorem rw_aload (hG : pm_G cc y nL rk lim lims G Ret) {i : Nat} {r : Option Nat} (d : decode cc pc = .ok (.aload i, 2)) (hv : env[i]? = some (va_rf r)) (k : G (pc + 2) env (va_rf r :: st) σ) : G pc env st σ := by
  obtain ⟨⟨K, p, l, e, R, s, m, args, below, meth, c, Q, n0, s0, ⟨hx, hb, hml, hown, hts, hkx, hin⟩, hfr, hlo, hlim, hlims, rfl⟩, -⟩ := hG
  intro H locs ls h1 h2 h3 h4 h5 h6
  cases r with
  | none => exact lv_aloadN hx hb d (h6.2.2.2 _ _ hv (fun w h => by cases h)) (k H locs ls h1 h2 h3 h4 h5 h6)
  | some a => exact lv_aload hx hb d (h6.2.2.2 _ _ hv (fun w h => by cases h)) (k H locs ls h1 h2 h3 h4 h5 h6)
theorem rw_dup (hG : pm_G cc y nL rk lim lims G Ret) {v : Value} (d : decode cc pc = .ok (.dup, 1)) (hc : v.category = 1) (k : G (pc + 1) env (v :: v :: st) σ) : G pc env (v :: st) σ := by
  obtain ⟨⟨K, p, l, e, R, s, m, args, below, meth, c, Q, n0, s0, ⟨hx, hb, hml, hown, hts, hkx, hin⟩, hfr, hlo, hlim, hlims, rfl⟩, -⟩ := hG
  intro H locs ls h1 h2 h3 h4 h5 h6
  exact lv_dup hx hb d (by rw [em_cat]; exact hc) (k H locs ls h1 h2 h3 h4 h5 h6)
theorem rw_pop (hG : pm_G cc y nL rk lim lims G Ret) {v : Value} (d : decode cc pc = .ok (.pop, 1)) (hc : v.category = 1) (k : G (pc + 1) env (st) σ) : G pc env (v :: st) σ := by
  obtain ⟨⟨K, p, l, e, R, s, m, args, below, meth, c, Q, n0, s0, ⟨hx, hb, hml, hown, hts, hkx, hin⟩, hfr, hlo, hlim, hlims, rfl⟩, -⟩ := hG
  intro H locs ls h1 h2 h3 h4 h5 h6
  exact lv_pop hx hb d (by rw [em_cat]; exact hc) (k H locs ls h1 h2 h3 h4 h5 h6)
theorem rw_dup_x1 (hG : pm_G cc y nL rk lim lims G Ret) {v w : Value} (d : decode cc pc = .ok (.dup_x1, 1)) (hc : v.category = 1) (hc2 : w.category = 1) (k : G (pc + 1) env (v :: w :: v :: st) σ) : G pc env (v :: w :: st) σ := by
  obtain ⟨⟨K, p, l, e, R, s, m, args, below, meth, c, Q, n0, s0, ⟨hx, hb, hml, hown, hts, hkx, hin⟩, hfr, hlo, hlim, hlims, rfl⟩, -⟩ := hG
  intro H locs ls h1 h2 h3 h4 h5 h6
  exact lv_dup_x1 hx hb d (by rw [em_cat]; exact hc) (by rw [em_cat]; exact hc2) (k H locs ls h1 h2 h3 h4 h5 h6)
theorem rw_dup2 (hG : pm_G cc y nL rk lim lims G Ret) {v w : Value} (d : decode cc pc = .ok (.dup2, 1)) (hc : v.category = 1) (hc2 : w.category = 1) (k : G (pc + 1) env (v :: w :: v :: w :: st) σ) : G pc env (v :: w :: st) σ := by
  obtain ⟨⟨K, p, l, e, R, s, m, args, below, meth, c, Q, n0, s0, ⟨hx, hb, hml, hown, hts, hkx, hin⟩, hfr, hlo, hlim, hlims, rfl⟩, -⟩ := hG
  intro H locs ls h1 h2 h3 h4 h5 h6
  exact lv_dup2_11 hx hb d (by rw [em_cat]; exact hc) (by rw [em_cat]; exact hc2) (k H locs ls h1 h2 h3 h4 h5 h6)
theorem rw_if_eq (hG : pm_G cc y nL rk lim lims G Ret) {x : Int32} {off : Int} {tgt : Nat} (d : decode cc pc = .ok (.ifCond .eq off, 3)) (ht : (pc : Int) + off = (tgt : Int)) (kt : x = 0 → G tgt env st σ) (kf : ¬ (x = 0) → G (pc + 3) env st σ) : G pc env (.int x :: st) σ := by
  obtain ⟨⟨K, p, l, e, R, s, m, args, below, meth, c, Q, n0, s0, ⟨hx, hb, hml, hown, hts, hkx, hin⟩, hfr, hlo, hlim, hlims, rfl⟩, -⟩ := hG
  intro H locs ls h1 h2 h3 h4 h5 h6
  exact lv_if_eq hx hb d ht (fun q => kt q H locs ls h1 h2 h3 h4 h5 h6) (fun q => kf (by simpa using q) H locs ls h1 h2 h3 h4 h5 h6)
theorem rw_if_ne (hG : pm_G cc y nL rk lim lims G Ret) {x : Int32} {off : Int} {tgt : Nat} (d : decode cc pc = .ok (.ifCond .ne off, 3)) (ht : (pc : Int) + off = (tgt : Int)) (kt : ¬ x = 0 → G tgt env st σ) (kf : ¬ (¬ x = 0) → G (pc + 3) env st σ) : G pc env (.int x :: st) σ := by
  obtain ⟨⟨K, p, l, e, R, s, m, args, below, meth, c, Q, n0, s0, ⟨hx, hb, hml, hown, hts, hkx, hin⟩, hfr, hlo, hlim, hlims, rfl⟩, -⟩ := hG
  intro H locs ls h1 h2 h3 h4 h5 h6
  exact lv_if_ne hx hb d ht (fun q => kt q H locs ls h1 h2 h3 h4 h5 h6) (fun q => kf (by simpa using q) H locs ls h1 h2 h3 h4 h5 h6)
theorem rw_if_lt (hG : pm_G cc y nL rk lim lims G Ret) {x : Int32} {off : Int} {tgt : Nat} (d : decode cc pc = .ok (.ifCond .lt off, 3)) (ht : (pc : Int) + off = (tgt : Int)) (kt : x < 0 → G tgt env st σ) (kf : ¬ (x < 0) → G (pc + 3) env st σ) : G pc env (.int x :: st) σ := by
  obtain ⟨⟨K, p, l, e, R, s, m, args, below, meth, c, Q, n0, s0, ⟨hx, hb, hml, hown, hts, hkx, hin⟩, hfr, hlo, hlim, hlims, rfl⟩, -⟩ := hG
  intro H locs ls h1 h2 h3 h4 h5 h6
  exact lv_if_lt hx hb d ht (fun q => kt q H locs ls h1 h2 h3 h4 h5 h6) (fun q => kf (by simpa using q) H locs ls h1 h2 h3 h4 h5 h6)
theorem rw_if_ge (hG : pm_G cc y nL rk lim lims G Ret) {x : Int32} {off : Int} {tgt : Nat} (d : decode cc pc = .ok (.ifCond .ge off, 3)) (ht : (pc : Int) + off = (tgt : Int)) (kt : 0 ≤ x → G tgt env st σ) (kf : ¬ (0 ≤ x) → G (pc + 3) env st σ) : G pc env (.int x :: st) σ := by
  obtain ⟨⟨K, p, l, e, R, s, m, args, below, meth, c, Q, n0, s0, ⟨hx, hb, hml, hown, hts, hkx, hin⟩, hfr, hlo, hlim, hlims, rfl⟩, -⟩ := hG
  intro H locs ls h1 h2 h3 h4 h5 h6
  exact lv_if_ge hx hb d ht (fun q => kt q H locs ls h1 h2 h3 h4 h5 h6) (fun q => kf (by simpa using q) H locs ls h1 h2 h3 h4 h5 h6)
theorem rw_if_gt (hG : pm_G cc y nL rk lim lims G Ret) {x : Int32} {off : Int} {tgt : Nat} (d : decode cc pc = .ok (.ifCond .gt off, 3)) (ht : (pc : Int) + off = (tgt : Int)) (kt : 0 < x → G tgt env st σ) (kf : ¬ (0 < x) → G (pc + 3) env st σ) : G pc env (.int x :: st) σ := by
  obtain ⟨⟨K, p, l, e, R, s, m, args, below, meth, c, Q, n0, s0, ⟨hx, hb, hml, hown, hts, hkx, hin⟩, hfr, hlo, hlim, hlims, rfl⟩, -⟩ := hG
  intro H locs ls h1 h2 h3 h4 h5 h6
  exact lv_if_gt hx hb d ht (fun q => kt q H locs ls h1 h2 h3 h4 h5 h6) (fun q => kf (by simpa using q) H locs ls h1 h2 h3 h4 h5 h6)
theorem rw_if_le (hG : pm_G cc y nL rk lim lims G Ret) {x : Int32} {off : Int} {tgt : Nat} (d : decode cc pc = .ok (.ifCond .le off, 3)) (ht : (pc : Int) + off = (tgt : Int)) (kt : x ≤ 0 → G tgt env st σ) (kf : ¬ (x ≤ 0) → G (pc + 3) env st σ) : G pc env (.int x :: st) σ := by
  obtain ⟨⟨K, p, l, e, R, s, m, args, below, meth, c, Q, n0, s0, ⟨hx, hb, hml, hown, hts, hkx, hin⟩, hfr, hlo, hlim, hlims, rfl⟩, -⟩ := hG
  intro H locs ls h1 h2 h3 h4 h5 h6
  exact lv_if_le hx hb d ht (fun q => kt q H locs ls h1 h2 h3 h4 h5 h6) (fun q => kf (by simpa using q) H locs ls h1 h2 h3 h4 h5 h6)
theorem rw_icmp_eq (hG : pm_G cc y nL rk lim lims G Ret) {x z : Int32} {off : Int} {tgt : Nat} (d : decode cc pc = .ok (.if_icmp .eq off, 3)) (ht : (pc : Int) + off = (tgt : Int)) (kt : x = z → G tgt env st σ) (kf : ¬ (x = z) → G (pc + 3) env st σ) : G pc env (.int z :: .int x :: st) σ := by
  obtain ⟨⟨K, p, l, e, R, s, m, args, below, meth, c, Q, n0, s0, ⟨hx, hb, hml, hown, hts, hkx, hin⟩, hfr, hlo, hlim, hlims, rfl⟩, -⟩ := hG
  intro H locs ls h1 h2 h3 h4 h5 h6
  exact lv_icmp_eq hx hb d ht (fun q => kt q H locs ls h1 h2 h3 h4 h5 h6) (fun q => kf (by simpa using q) H locs ls h1 h2 h3 h4 h5 h6)
theorem rw_icmp_ne (hG : pm_G cc y nL rk lim lims G Ret) {x z : Int32} {off : Int} {tgt : Nat} (d : decode cc pc = .ok (.if_icmp .ne off, 3)) (ht : (pc : Int) + off = (tgt : Int)) (kt : ¬ x = z → G tgt env st σ) (kf : ¬ (¬ x = z) → G (pc + 3) env st σ) : G pc env (.int z :: .int x :: st) σ := by
  obtain ⟨⟨K, p, l, e, R, s, m, args, below, meth, c, Q, n0, s0, ⟨hx, hb, hml, hown, hts, hkx, hin⟩, hfr, hlo, hlim, hlims, rfl⟩, -⟩ := hG
  intro H locs ls h1 h2 h3 h4 h5 h6
  exact lv_icmp_ne hx hb d ht (fun q => kt q H locs ls h1 h2 h3 h4 h5 h6) (fun q => kf (by simpa using q) H locs ls h1 h2 h3 h4 h5 h6)
theorem rw_icmp_lt (hG : pm_G cc y nL rk lim lims G Ret) {x z : Int32} {off : Int} {tgt : Nat} (d : decode cc pc = .ok (.if_icmp .lt off, 3)) (ht : (pc : Int) + off = (tgt : Int)) (kt : x < z → G tgt env st σ) (kf : ¬ (x < z) → G (pc + 3) env st σ) : G pc env (.int z :: .int x :: st) σ := by
  obtain ⟨⟨K, p, l, e, R, s, m, args, below, meth, c, Q, n0, s0, ⟨hx, hb, hml, hown, hts, hkx, hin⟩, hfr, hlo, hlim, hlims, rfl⟩, -⟩ := hG
  intro H locs ls h1 h2 h3 h4 h5 h6
  exact lv_icmp_lt hx hb d ht (fun q => kt q H locs ls h1 h2 h3 h4 h5 h6) (fun q => kf (by simpa using q) H locs ls h1 h2 h3 h4 h5 h6)
theorem rw_icmp_ge (hG : pm_G cc y nL rk lim lims G Ret) {x z : Int32} {off : Int} {tgt : Nat} (d : decode cc pc = .ok (.if_icmp .ge off, 3)) (ht : (pc : Int) + off = (tgt : Int)) (kt : z ≤ x → G tgt env st σ) (kf : ¬ (z ≤ x) → G (pc + 3) env st σ) : G pc env (.int z :: .int x :: st) σ := by
  obtain ⟨⟨K, p, l, e, R, s, m, args, below, meth, c, Q, n0, s0, ⟨hx, hb, hml, hown, hts, hkx, hin⟩, hfr, hlo, hlim, hlims, rfl⟩, -⟩ := hG
  intro H locs ls h1 h2 h3 h4 h5 h6
  exact lv_icmp_ge hx hb d ht (fun q => kt q H locs ls h1 h2 h3 h4 h5 h6) (fun q => kf (by simpa using q) H locs ls h1 h2 h3 h4 h5 h6)
theorem rw_icmp_gt (hG : pm_G cc y nL rk lim lims G Ret) {x z : Int32} {off : Int} {tgt : Nat} (d : decode cc pc = .ok (.if_icmp .gt off, 3)) (ht : (pc : Int) + off = (tgt : Int)) (kt : z < x → G tgt env st σ) (kf : ¬ (z < x) → G (pc + 3) env st σ) : G pc env (.int z :: .int x :: st) σ := by
  obtain ⟨⟨K, p, l, e, R, s, m, args, below, meth, c, Q, n0, s0, ⟨hx, hb, hml, hown, hts, hkx, hin⟩, hfr, hlo, hlim, hlims, rfl⟩, -⟩ := hG
  intro H locs ls h1 h2 h3 h4 h5 h6
  exact lv_icmp_gt hx hb d ht (fun q => kt q H locs ls h1 h2 h3 h4 h5 h6) (fun q => kf (by simpa using q) H locs ls h1 h2 h3 h4 h5 h6)
theorem rw_icmp_le (hG : pm_G cc y nL rk lim lims G Ret) {x z : Int32} {off : Int} {tgt : Nat} (d : decode cc pc = .ok (.if_icmp .le off, 3)) (ht : (pc : Int) + off = (tgt : Int)) (kt : x ≤ z → G tgt env st σ) (kf : ¬ (x ≤ z) → G (pc + 3) env st σ) : G pc env (.int z :: .int x :: st) σ := by
  obtain ⟨⟨K, p, l, e, R, s, m, args, below, meth, c, Q, n0, s0, ⟨hx, hb, hml, hown, hts, hkx, hin⟩, hfr, hlo, hlim, hlims, rfl⟩, -⟩ := hG
  intro H locs ls h1 h2 h3 h4 h5 h6
  exact lv_icmp_le hx hb d ht (fun q => kt q H locs ls h1 h2 h3 h4 h5 h6) (fun q => kf (by simpa using q) H locs ls h1 h2 h3 h4 h5 h6)
theorem rw_ifnull (hG : pm_G cc y nL rk lim lims G Ret) {r : Option Nat} {off : Int} {tgt : Nat} (d : decode cc pc = .ok (.ifnull off, 3)) (ht : (pc : Int) + off = (tgt : Int)) (kt : r = none → G tgt env st σ) (kf : ¬ r = none → G (pc + 3) env st σ) : G pc env (va_rf r :: st) σ := by
  obtain ⟨⟨K, p, l, e, R, s, m, args, below, meth, c, Q, n0, s0, ⟨hx, hb, hml, hown, hts, hkx, hin⟩, hfr, hlo, hlim, hlims, rfl⟩, -⟩ := hG
  intro H locs ls h1 h2 h3 h4 h5 h6
  cases r with
  | none => exact lv_ifnullN hx hb d ht (kt rfl H locs ls h1 h2 h3 h4 h5 h6)
  | some a => exact lv_ifnull hx hb d (kf (by simp) H locs ls h1 h2 h3 h4 h5 h6)
theorem rw_ifnonnull (hG : pm_G cc y nL rk lim lims G Ret) {r : Option Nat} {off : Int} {tgt : Nat} (d : decode cc pc = .ok (.ifnonnull off, 3)) (ht : (pc : Int) + off = (tgt : Int)) (kt : ¬ r = none → G tgt env st σ) (kf : r = none → G (pc + 3) env st σ) : G pc env (va_rf r :: st) σ := by
  obtain ⟨⟨K, p, l, e, R, s, m, args, below, meth, c, Q, n0, s0, ⟨hx, hb, hml, hown, hts, hkx, hin⟩, hfr, hlo, hlim, hlims, rfl⟩, -⟩ := hG
  intro H locs ls h1 h2 h3 h4 h5 h6
  cases r with
  | none => exact lv_ifnonnullN hx hb d (kf rfl H locs ls h1 h2 h3 h4 h5 h6)
  | some a => exact lv_ifnonnull hx hb d ht (kt (by simp) H locs ls h1 h2 h3 h4 h5 h6)
theorem rw_goto (hG : pm_G cc y nL rk lim lims G Ret) {off : Int} {tgt : Nat} (d : decode cc pc = .ok (.goto off, 3)) (ht : (pc : Int) + off = (tgt : Int)) (k : G tgt env st σ) : G pc env st σ := by
  obtain ⟨⟨K, p, l, e, R, s, m, args, below, meth, c, Q, n0, s0, ⟨hx, hb, hml, hown, hts, hkx, hin⟩, hfr, hlo, hlim, hlims, rfl⟩, -⟩ := hG
  intro H locs ls h1 h2 h3 h4 h5 h6
  exact lv_goto hx hb d ht (k H locs ls h1 h2 h3 h4 h5 h6)
theorem rw_tableIn (hG : pm_G cc y nL rk lim lims G Ret) {dflt lo hi : Int} {offs : Array Int} {len : Nat} {x : Int32} {off : Int} {tgt : Nat} (d : decode cc pc = .ok (.tableswitch dflt lo hi offs, len)) (q1 : ¬ x.toInt < lo) (q2 : ¬ hi < x.toInt) (ho : offs[(x.toInt - lo).toNat]? = some off) (ht : (pc : Int) + off = (tgt : Int)) (k : G tgt env st σ) : G pc env (.int x :: st) σ := by
  obtain ⟨⟨K, p, l, e, R, s, m, args, below, meth, c, Q, n0, s0, ⟨hx, hb, hml, hown, hts, hkx, hin⟩, hfr, hlo, hlim, hlims, rfl⟩, -⟩ := hG
  intro H locs ls h1 h2 h3 h4 h5 h6
  exact lv_tableIn hx hb d q1 q2 ho ht (k H locs ls h1 h2 h3 h4 h5 h6)
theorem rw_tableOut (hG : pm_G cc y nL rk lim lims G Ret) {dflt lo hi : Int} {offs : Array Int} {len : Nat} {x : Int32} {tgt : Nat} (d : decode cc pc = .ok (.tableswitch dflt lo hi offs, len)) (q1 : x.toInt < lo ∨ hi < x.toInt) (ht : (pc : Int) + dflt = (tgt : Int)) (k : G tgt env st σ) : G pc env (.int x :: st) σ := by
  obtain ⟨⟨K, p, l, e, R, s, m, args, below, meth, c, Q, n0, s0, ⟨hx, hb, hml, hown, hts, hkx, hin⟩, hfr, hlo, hlim, hlims, rfl⟩, -⟩ := hG
  intro H locs ls h1 h2 h3 h4 h5 h6
  exact lv_tableOut hx hb d q1 ht (k H locs ls h1 h2 h3 h4 h5 h6)
theorem rw_lookup (hG : pm_G cc y nL rk lim lims G Ret) {dflt : Int} {ps : Array (Int × Int)} {len : Nat} {x : Int32} {off : Int} {tgt : Nat} (d : decode cc pc = .ok (.lookupswitch dflt ps, len)) (hp : (ps.toList.zip (ps.toList.drop 1)).all (fun (a, next) => a.1 < next.1) = true) (ho : Op.lookupswitch.offset ps.toList dflt x.toInt = off) (ht : (pc : Int) + off = (tgt : Int)) (k : G tgt env st σ) : G pc env (.int x :: st) σ := by
  obtain ⟨⟨K, p, l, e, R, s, m, args, below, meth, c, Q, n0, s0, ⟨hx, hb, hml, hown, hts, hkx, hin⟩, hfr, hlo, hlim, hlims, rfl⟩, -⟩ := hG
  intro H locs ls h1 h2 h3 h4 h5 h6
  exact lv_lookup hx hb d hp ho ht (k H locs ls h1 h2 h3 h4 h5 h6)
end PMROWS
