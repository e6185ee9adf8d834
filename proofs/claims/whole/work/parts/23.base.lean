/-! Small rows for the reckoning. -/
theorem ex_n : pm_ex [] = [] := Eq.trans rfl rfl
theorem ex_i {v : Int32} {vs : List Value} : pm_ex (.int v :: vs) = .int v :: pm_ex vs := Eq.trans rfl rfl
theorem ex_r {v : Nat} {vs : List Value} : pm_ex (.ref v :: vs) = .ref v :: pm_ex vs := Eq.trans rfl rfl
theorem ex_0 {vs : List Value} : pm_ex (.null :: vs) = .null :: pm_ex vs := Eq.trans rfl rfl
theorem ex_j {v : Int64} {vs : List Value} : pm_ex (.long v :: vs) = .long v :: .float 0 :: pm_ex vs := Eq.trans rfl rfl
theorem ex_q {r : Option Nat} {vs : List Value} : pm_ex (va_rf r :: vs) = va_rf r :: pm_ex vs := by cases r <;> rfl
theorem rt_0 : pm_rt 0 none = true := Eq.trans rfl rfl
theorem rt_1 {x : Int32} : pm_rt 1 (some (.int x)) = true := Eq.trans rfl rfl
theorem rt_20 : pm_rt 2 (some (.int 0)) = true := Eq.trans rfl rfl
theorem rt_21 : pm_rt 2 (some (.int 1)) = true := Eq.trans rfl rfl
theorem rt_2 {P : Prop} [Decidable P] : pm_rt 2 (some (.int (if P then 1 else 0))) = true := by by_cases h : P <;> simp [h, rt_20, rt_21]
theorem rt_3 {x : Int64} : pm_rt 3 (some (.long x)) = true := Eq.trans rfl rfl
theorem rt_4 {x : Nat} : pm_rt 4 (some (.ref x)) = true := Eq.trans rfl rfl
theorem rt_4n : pm_rt 4 (some .null) = true := Eq.trans rfl rfl
theorem rt_4q {r : Option Nat} : pm_rt 4 (some (va_rf r)) = true := by cases r <;> rfl
theorem nl_0 {env : List Value} : pm_nl env 0 = true := Eq.trans rfl rfl
def nlB (v : Option Value) : Bool := match v with
  | some (.long _) => false
  | some (.double _) => false
  | _ => true
theorem nlB_i {x : Int32} : nlB (some (.int x)) = true := Eq.trans rfl rfl
theorem nlB_r {x : Nat} : nlB (some (.ref x)) = true := Eq.trans rfl rfl
theorem nlB_n : nlB (some .null) = true := Eq.trans rfl rfl
theorem nlB_f {x : UInt32} : nlB (some (.float x)) = true := Eq.trans rfl rfl
theorem nlB_q {r : Option Nat} : nlB (some (va_rf r)) = true := by cases r <;> rfl
theorem nl_1 {env : List Value} : pm_nl env 1 = nlB env[0]? := Eq.trans rfl rfl
theorem nl_2 {env : List Value} : pm_nl env 2 = nlB env[1]? := Eq.trans rfl rfl
theorem nl_3 {env : List Value} : pm_nl env 3 = nlB env[2]? := Eq.trans rfl rfl
theorem nl_4 {env : List Value} : pm_nl env 4 = nlB env[3]? := Eq.trans rfl rfl
theorem nl_5 {env : List Value} : pm_nl env 5 = nlB env[4]? := Eq.trans rfl rfl
theorem nl_6 {env : List Value} : pm_nl env 6 = nlB env[5]? := Eq.trans rfl rfl
theorem nl_7 {env : List Value} : pm_nl env 7 = nlB env[6]? := Eq.trans rfl rfl
theorem nl_8 {env : List Value} : pm_nl env 8 = nlB env[7]? := Eq.trans rfl rfl
theorem nl_9 {env : List Value} : pm_nl env 9 = nlB env[8]? := Eq.trans rfl rfl
theorem ag_0 {vs : List Value} {n : Nat} : pm_args vs n = pm_ex vs ++ List.replicate (n - (pm_ex vs).length) (.float 0) := Eq.trans rfl rfl
theorem dt_t {P : Prop} [Decidable P] : (decide P = true) = P := by simp
theorem ge_0 {α : Type} {a : α} {l : List α} : (a :: l)[0]? = some a := Eq.trans rfl rfl
theorem ge_s {α : Type} {a : α} {l : List α} {i : Nat} : (a :: l)[i + 1]? = l[i]? := Eq.trans rfl rfl
theorem se_0 {α : Type} {a b : α} {l : List α} : (a :: l).set 0 b = b :: l := Eq.trans rfl rfl
theorem se_s {α : Type} {a b : α} {l : List α} {i : Nat} : (a :: l).set (i + 1) b = a :: l.set i b := Eq.trans rfl rfl
theorem ap_c {α : Type} {a : α} {l m : List α} : (a :: l) ++ m = a :: (l ++ m) := Eq.trans rfl rfl
theorem ap_n {α : Type} {m : List α} : ([] : List α) ++ m = m := Eq.trans rfl rfl
theorem ln_c {α : Type} {a : α} {l : List α} : (a :: l).length = l.length + 1 := Eq.trans rfl rfl
theorem ln_n {α : Type} : ([] : List α).length = 0 := Eq.trans rfl rfl
theorem rp_0 {α : Type} {a : α} : List.replicate 0 a = [] := Eq.trans rfl rfl
theorem rp_s {α : Type} {a : α} {n : Nat} : List.replicate (n + 1) a = a :: List.replicate n a := Eq.trans rfl rfl
theorem ge_n {α : Type} {i : Nat} : ([] : List α)[i]? = none := by simp
theorem gd_s {α : Type} {a b : α} : (some a).getD b = a := Eq.trans rfl rfl
theorem gd_n {α : Type} {b : α} : (none : Option α).getD b = b := Eq.trans rfl rfl
