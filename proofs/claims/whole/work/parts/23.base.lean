/-! Small rows for the reckoning. -/
theorem ex_n : pm_ex [] = [] := rfl
theorem ex_i {v : Int32} {vs : List Value} : pm_ex (.int v :: vs) = .int v :: pm_ex vs := rfl
theorem ex_r {v : Nat} {vs : List Value} : pm_ex (.ref v :: vs) = .ref v :: pm_ex vs := rfl
theorem ex_0 {vs : List Value} : pm_ex (.null :: vs) = .null :: pm_ex vs := rfl
theorem ex_j {v : Int64} {vs : List Value} : pm_ex (.long v :: vs) = .long v :: .float 0 :: pm_ex vs := rfl
theorem ex_q {r : Option Nat} {vs : List Value} : pm_ex (va_rf r :: vs) = va_rf r :: pm_ex vs := by cases r <;> rfl
theorem rt_0 : pm_rt 0 none = true := rfl
theorem rt_1 {x : Int32} : pm_rt 1 (some (.int x)) = true := rfl
theorem rt_20 : pm_rt 2 (some (.int 0)) = true := rfl
theorem rt_21 : pm_rt 2 (some (.int 1)) = true := rfl
theorem rt_2 {P : Prop} [Decidable P] : pm_rt 2 (some (.int (if P then 1 else 0))) = true := by by_cases h : P <;> simp [h, rt_20, rt_21]
theorem rt_3 {x : Int64} : pm_rt 3 (some (.long x)) = true := rfl
theorem rt_4 {x : Nat} : pm_rt 4 (some (.ref x)) = true := rfl
theorem rt_4n : pm_rt 4 (some .null) = true := rfl
theorem rt_4q {r : Option Nat} : pm_rt 4 (some (va_rf r)) = true := by cases r <;> rfl
theorem nl_0 {env : List Value} : pm_nl env 0 = true := rfl
def nlB (v : Option Value) : Bool := match v with
  | some (.long _) => false
  | some (.double _) => false
  | _ => true
theorem nlB_i {x : Int32} : nlB (some (.int x)) = true := rfl
theorem nlB_r {x : Nat} : nlB (some (.ref x)) = true := rfl
theorem nlB_n : nlB (some .null) = true := rfl
theorem nlB_f {x : UInt32} : nlB (some (.float x)) = true := rfl
theorem nlB_q {r : Option Nat} : nlB (some (va_rf r)) = true := by cases r <;> rfl
theorem nl_1 {env : List Value} : pm_nl env 1 = nlB env[0]? := rfl
theorem nl_2 {env : List Value} : pm_nl env 2 = nlB env[1]? := rfl
theorem nl_3 {env : List Value} : pm_nl env 3 = nlB env[2]? := rfl
theorem nl_4 {env : List Value} : pm_nl env 4 = nlB env[3]? := rfl
theorem nl_5 {env : List Value} : pm_nl env 5 = nlB env[4]? := rfl
theorem nl_6 {env : List Value} : pm_nl env 6 = nlB env[5]? := rfl
theorem nl_7 {env : List Value} : pm_nl env 7 = nlB env[6]? := rfl
theorem nl_8 {env : List Value} : pm_nl env 8 = nlB env[7]? := rfl
theorem nl_9 {env : List Value} : pm_nl env 9 = nlB env[8]? := rfl
theorem ag_0 {vs : List Value} {n : Nat} : pm_args vs n = pm_ex vs ++ List.replicate (n - (pm_ex vs).length) (.float 0) := rfl
theorem dt_t {P : Prop} [Decidable P] : (decide P = true) = P := by simp
