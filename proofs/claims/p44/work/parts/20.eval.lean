/-! THE ROWS AS EQUATIONS: what a row of instructions asks, over a stack that is written out -/
def ax_rd (vs : List Value) (j : Int32) (P : Value → Prop) : Prop := ¬ j < 0 ∧ ∃ v, vs[j.toNatClampNeg]? = some v ∧ P v
def ax_wr (vs : List Value) (j : Int32) (P : Nat → Prop) : Prop := ¬ j < 0 ∧ j.toNatClampNeg < vs.length ∧ P j.toNatClampNeg
def ax_obj (H : ax_H) (a ci : Nat) (P : List Value → Prop) : Prop := ∃ fs, ax_get H a = some (ci, fs) ∧ P fs
def ax_at' (fs : List Value) (k : Nat) (P : Value → Prop) : Prop := ∃ v, fs[k]? = some v ∧ P v
def ax_lc (ls : ax_L) (i : Nat) (P : Value → Prop) : Prop := ∃ v, ls[i]? = some (some v) ∧ P v
theorem ax_obj_of {H : ax_H} {a ci : Nat} {fs : List Value} {P : List Value → Prop} (h : ax_get H a = some (ci, fs)) : ax_obj H a ci P = P fs := by simp [ax_obj, h]
section EV
variable {n : ax_K} {j : ax_J} {R : ax_R} {κ : ax_B} {ls : ax_L} {r : List Value} {H : ax_H} {x y : Int32} {u w : Int64} {a b : Nat} {v v' : Value}
theorem e_nil : ax_run [] j R κ ls r H = False := rfl
theorem e_cons {i : ax_I} {L : List ax_I} : ax_run (i :: L) j R κ ls r H = i (ax_run L j R) j R κ ls r H := rfl
theorem e_iload {i : Nat} (h : ls[i]? = some (some (.int x))) : ai_iload i n j R κ ls r H = n κ ls (.int x :: r) H := by simp [ai_iload, h]
theorem e_il0 {t : ax_L} : ai_iload 0 n j R κ (some (.int x) :: t) r H = n κ (some (.int x) :: t) (.int x :: r) H := by simp [ai_iload]
theorem e_il1 {l0 : Option Value} {t : ax_L} : ai_iload 1 n j R κ (l0 :: some (.int x) :: t) r H = n κ (l0 :: some (.int x) :: t) (.int x :: r) H := by simp [ai_iload]
theorem e_il2 {l0 l1 : Option Value} {t : ax_L} : ai_iload 2 n j R κ (l0 :: l1 :: some (.int x) :: t) r H = n κ (l0 :: l1 :: some (.int x) :: t) (.int x :: r) H := by simp [ai_iload]
theorem e_il3 {l0 l1 l2 : Option Value} {t : ax_L} : ai_iload 3 n j R κ (l0 :: l1 :: l2 :: some (.int x) :: t) r H = n κ (l0 :: l1 :: l2 :: some (.int x) :: t) (.int x :: r) H := by simp [ai_iload]
theorem e_il4 {l0 l1 l2 l3 : Option Value} {t : ax_L} : ai_iload 4 n j R κ (l0 :: l1 :: l2 :: l3 :: some (.int x) :: t) r H = n κ (l0 :: l1 :: l2 :: l3 :: some (.int x) :: t) (.int x :: r) H := by simp [ai_iload]
theorem e_il5 {l0 l1 l2 l3 l4 : Option Value} {t : ax_L} : ai_iload 5 n j R κ (l0 :: l1 :: l2 :: l3 :: l4 :: some (.int x) :: t) r H = n κ (l0 :: l1 :: l2 :: l3 :: l4 :: some (.int x) :: t) (.int x :: r) H := by simp [ai_iload]
theorem e_il6 {l0 l1 l2 l3 l4 l5 : Option Value} {t : ax_L} : ai_iload 6 n j R κ (l0 :: l1 :: l2 :: l3 :: l4 :: l5 :: some (.int x) :: t) r H = n κ (l0 :: l1 :: l2 :: l3 :: l4 :: l5 :: some (.int x) :: t) (.int x :: r) H := by simp [ai_iload]
theorem e_il7 {l0 l1 l2 l3 l4 l5 l6 : Option Value} {t : ax_L} : ai_iload 7 n j R κ (l0 :: l1 :: l2 :: l3 :: l4 :: l5 :: l6 :: some (.int x) :: t) r H = n κ (l0 :: l1 :: l2 :: l3 :: l4 :: l5 :: l6 :: some (.int x) :: t) (.int x :: r) H := by simp [ai_iload]
theorem e_il8 {l0 l1 l2 l3 l4 l5 l6 l7 : Option Value} {t : ax_L} : ai_iload 8 n j R κ (l0 :: l1 :: l2 :: l3 :: l4 :: l5 :: l6 :: l7 :: some (.int x) :: t) r H = n κ (l0 :: l1 :: l2 :: l3 :: l4 :: l5 :: l6 :: l7 :: some (.int x) :: t) (.int x :: r) H := by simp [ai_iload]
theorem e_ll {i : Nat} : ai_lload i n j R κ ls r H = ax_lc ls i (fun v => ∃ u : Int64, v = .long u ∧ n κ ls (.long u :: r) H) := by
  unfold ai_lload ax_lc
  exact propext ⟨fun ⟨u, h1, h2⟩ => ⟨.long u, h1, u, rfl, h2⟩, fun ⟨v, h1, u, h2, h3⟩ => ⟨u, by rw [← h2]; exact h1, h3⟩⟩
theorem e_il {i : Nat} : ai_iload i n j R κ ls r H = ax_lc ls i (fun v => ∃ x : Int32, v = .int x ∧ n κ ls (.int x :: r) H) := by
  unfold ai_iload ax_lc
  exact propext ⟨fun ⟨u, h1, h2⟩ => ⟨.int u, h1, u, rfl, h2⟩, fun ⟨v, h1, u, h2, h3⟩ => ⟨u, by rw [← h2]; exact h1, h3⟩⟩
theorem e_al {i : Nat} : ai_aload i n j R κ ls r H = ax_lc ls i (fun v => ∃ x : Nat, v = .ref x ∧ n κ ls (.ref x :: r) H) := by
  unfold ai_aload ax_lc
  exact propext ⟨fun ⟨u, h1, h2⟩ => ⟨.ref u, h1, u, rfl, h2⟩, fun ⟨v, h1, u, h2, h3⟩ => ⟨u, by rw [← h2]; exact h1, h3⟩⟩
theorem e_lc0 {P : Value → Prop} {t : ax_L} : ax_lc (some v :: t) 0 P = P v := by simp [ax_lc]
theorem e_lcs {P : Value → Prop} {l0 : Option Value} {t : ax_L} {i : Nat} : ax_lc (l0 :: t) (i + 1) P = ax_lc t i P := by simp [ax_lc]
theorem e_ei {P : Int32 → Prop} : (∃ x' : Int32, Value.int x = .int x' ∧ P x') = P x := by simp
theorem e_el {P : Int64 → Prop} : (∃ x' : Int64, Value.long u = .long x' ∧ P x') = P u := by simp
theorem e_er {P : Nat → Prop} : (∃ x' : Nat, Value.ref a = .ref x' ∧ P x') = P a := by simp
theorem e_const : ai_const v n j R κ ls r H = n κ ls (v :: r) H := rfl
theorem e_istore {i : Nat} : ai_istore i n j R κ ls (.int x :: r) H = n κ (ax_s1 ls i (.int x)) r H := by simp [ai_istore]
theorem e_lstore {i : Nat} : ai_lstore i n j R κ ls (.long u :: r) H = n κ (ax_s2 ls i (.long u)) r H := by simp [ai_lstore]
theorem e_astore {i : Nat} : ai_astore i n j R κ ls (.ref a :: r) H = n κ (ax_s1 ls i (.ref a)) r H := by simp [ai_astore]
theorem e_iinc {i : Nat} {d : Int32} : ai_iinc i d n j R κ ls r H = ax_lc ls i (fun v => ∃ x : Int32, v = .int x ∧ n κ (ax_s1 ls i (.int (x + d))) r H) := by
  unfold ai_iinc ax_lc
  exact propext ⟨fun ⟨u, h1, h2⟩ => ⟨.int u, h1, u, rfl, h2⟩, fun ⟨v, h1, u, h2, h3⟩ => ⟨u, by rw [← h2]; exact h1, h3⟩⟩
theorem e_s1_0 {l0 : Option Value} {t : ax_L} : ax_s1 (l0 :: t) 0 v = some v :: t := rfl
theorem e_s2_0 {l0 l1 : Option Value} {t : ax_L} : ax_s2 (l0 :: l1 :: t) 0 v = some v :: none :: t := by rfl
theorem e_s1_1 {l0 l1 : Option Value} {t : ax_L} : ax_s1 (l0 :: l1 :: t) 1 v = ax_dl l0 :: some v :: t := rfl
theorem e_s2_1 {l0 l1 l2 : Option Value} {t : ax_L} : ax_s2 (l0 :: l1 :: l2 :: t) 1 v = ax_dl l0 :: some v :: none :: t := by rfl
theorem e_s1_2 {l0 l1 l2 : Option Value} {t : ax_L} : ax_s1 (l0 :: l1 :: l2 :: t) 2 v = l0 :: ax_dl l1 :: some v :: t := rfl
theorem e_s2_2 {l0 l1 l2 l3 : Option Value} {t : ax_L} : ax_s2 (l0 :: l1 :: l2 :: l3 :: t) 2 v = l0 :: ax_dl l1 :: some v :: none :: t := by rfl
theorem e_s1_3 {l0 l1 l2 l3 : Option Value} {t : ax_L} : ax_s1 (l0 :: l1 :: l2 :: l3 :: t) 3 v = l0 :: l1 :: ax_dl l2 :: some v :: t := rfl
theorem e_s2_3 {l0 l1 l2 l3 l4 : Option Value} {t : ax_L} : ax_s2 (l0 :: l1 :: l2 :: l3 :: l4 :: t) 3 v = l0 :: l1 :: ax_dl l2 :: some v :: none :: t := by rfl
theorem e_s1_4 {l0 l1 l2 l3 l4 : Option Value} {t : ax_L} : ax_s1 (l0 :: l1 :: l2 :: l3 :: l4 :: t) 4 v = l0 :: l1 :: l2 :: ax_dl l3 :: some v :: t := rfl
theorem e_s2_4 {l0 l1 l2 l3 l4 l5 : Option Value} {t : ax_L} : ax_s2 (l0 :: l1 :: l2 :: l3 :: l4 :: l5 :: t) 4 v = l0 :: l1 :: l2 :: ax_dl l3 :: some v :: none :: t := by rfl
theorem e_s1_5 {l0 l1 l2 l3 l4 l5 : Option Value} {t : ax_L} : ax_s1 (l0 :: l1 :: l2 :: l3 :: l4 :: l5 :: t) 5 v = l0 :: l1 :: l2 :: l3 :: ax_dl l4 :: some v :: t := rfl
theorem e_s2_5 {l0 l1 l2 l3 l4 l5 l6 : Option Value} {t : ax_L} : ax_s2 (l0 :: l1 :: l2 :: l3 :: l4 :: l5 :: l6 :: t) 5 v = l0 :: l1 :: l2 :: l3 :: ax_dl l4 :: some v :: none :: t := by rfl
theorem e_s1_6 {l0 l1 l2 l3 l4 l5 l6 : Option Value} {t : ax_L} : ax_s1 (l0 :: l1 :: l2 :: l3 :: l4 :: l5 :: l6 :: t) 6 v = l0 :: l1 :: l2 :: l3 :: l4 :: ax_dl l5 :: some v :: t := rfl
theorem e_s2_6 {l0 l1 l2 l3 l4 l5 l6 l7 : Option Value} {t : ax_L} : ax_s2 (l0 :: l1 :: l2 :: l3 :: l4 :: l5 :: l6 :: l7 :: t) 6 v = l0 :: l1 :: l2 :: l3 :: l4 :: ax_dl l5 :: some v :: none :: t := by rfl
theorem e_s1_7 {l0 l1 l2 l3 l4 l5 l6 l7 : Option Value} {t : ax_L} : ax_s1 (l0 :: l1 :: l2 :: l3 :: l4 :: l5 :: l6 :: l7 :: t) 7 v = l0 :: l1 :: l2 :: l3 :: l4 :: l5 :: ax_dl l6 :: some v :: t := rfl
theorem e_s2_7 {l0 l1 l2 l3 l4 l5 l6 l7 l8 : Option Value} {t : ax_L} : ax_s2 (l0 :: l1 :: l2 :: l3 :: l4 :: l5 :: l6 :: l7 :: l8 :: t) 7 v = l0 :: l1 :: l2 :: l3 :: l4 :: l5 :: ax_dl l6 :: some v :: none :: t := by rfl
theorem e_s1_8 {l0 l1 l2 l3 l4 l5 l6 l7 l8 : Option Value} {t : ax_L} : ax_s1 (l0 :: l1 :: l2 :: l3 :: l4 :: l5 :: l6 :: l7 :: l8 :: t) 8 v = l0 :: l1 :: l2 :: l3 :: l4 :: l5 :: l6 :: ax_dl l7 :: some v :: t := rfl
theorem e_s2_8 {l0 l1 l2 l3 l4 l5 l6 l7 l8 l9 : Option Value} {t : ax_L} : ax_s2 (l0 :: l1 :: l2 :: l3 :: l4 :: l5 :: l6 :: l7 :: l8 :: l9 :: t) 8 v = l0 :: l1 :: l2 :: l3 :: l4 :: l5 :: l6 :: ax_dl l7 :: some v :: none :: t := by rfl
theorem e_s1_9 {l0 l1 l2 l3 l4 l5 l6 l7 l8 l9 : Option Value} {t : ax_L} : ax_s1 (l0 :: l1 :: l2 :: l3 :: l4 :: l5 :: l6 :: l7 :: l8 :: l9 :: t) 9 v = l0 :: l1 :: l2 :: l3 :: l4 :: l5 :: l6 :: l7 :: ax_dl l8 :: some v :: t := rfl
theorem e_s2_9 {l0 l1 l2 l3 l4 l5 l6 l7 l8 l9 l10 : Option Value} {t : ax_L} : ax_s2 (l0 :: l1 :: l2 :: l3 :: l4 :: l5 :: l6 :: l7 :: l8 :: l9 :: l10 :: t) 9 v = l0 :: l1 :: l2 :: l3 :: l4 :: l5 :: l6 :: l7 :: ax_dl l8 :: some v :: none :: t := by rfl
theorem e_s1_10 {l0 l1 l2 l3 l4 l5 l6 l7 l8 l9 l10 : Option Value} {t : ax_L} : ax_s1 (l0 :: l1 :: l2 :: l3 :: l4 :: l5 :: l6 :: l7 :: l8 :: l9 :: l10 :: t) 10 v = l0 :: l1 :: l2 :: l3 :: l4 :: l5 :: l6 :: l7 :: l8 :: ax_dl l9 :: some v :: t := rfl
theorem e_s2_10 {l0 l1 l2 l3 l4 l5 l6 l7 l8 l9 l10 l11 : Option Value} {t : ax_L} : ax_s2 (l0 :: l1 :: l2 :: l3 :: l4 :: l5 :: l6 :: l7 :: l8 :: l9 :: l10 :: l11 :: t) 10 v = l0 :: l1 :: l2 :: l3 :: l4 :: l5 :: l6 :: l7 :: l8 :: ax_dl l9 :: some v :: none :: t := by rfl
theorem e_dln : ax_dl none = none := rfl
theorem e_dli : ax_dl (some (.int x)) = some (.int x) := rfl
theorem e_dlr : ax_dl (some (.ref a)) = some (.ref a) := rfl
theorem e_dll : ax_dl (some (.long u)) = none := rfl
theorem e_b {f : Int32 → Int32 → Int32} : ai_b f n j R κ ls (.int y :: .int x :: r) H = n κ ls (.int (f x y) :: r) H := propext ⟨fun ⟨x', y', r', h1, h2⟩ => by cases h1; exact h2, fun h => ⟨x, y, r, rfl, h⟩⟩
theorem e_bd {f : Int32 → Int32 → Int32} : ai_bd f n j R κ ls (.int y :: .int x :: r) H = (¬ y = 0 ∧ n κ ls (.int (f x y) :: r) H) := propext ⟨fun ⟨x', y', r', h1, h2⟩ => by cases h1; exact h2, fun h => ⟨x, y, r, rfl, h⟩⟩
theorem e_lb {f : Int64 → Int64 → Int64} : ai_lb f n j R κ ls (.long w :: .long u :: r) H = n κ ls (.long (f u w) :: r) H := propext ⟨fun ⟨x', y', r', h1, h2⟩ => by cases h1; exact h2, fun h => ⟨u, w, r, rfl, h⟩⟩
theorem e_lbd {f : Int64 → Int64 → Int64} : ai_lbd f n j R κ ls (.long w :: .long u :: r) H = (¬ w = 0 ∧ n κ ls (.long (f u w) :: r) H) := propext ⟨fun ⟨x', y', r', h1, h2⟩ => by cases h1; exact h2, fun h => ⟨u, w, r, rfl, h⟩⟩
theorem e_lcmp : ai_lcmp n j R κ ls (.long w :: .long u :: r) H = n κ ls (.int (lg_cmp u w) :: r) H := propext ⟨fun ⟨x', y', r', h1, h2⟩ => by cases h1; exact h2, fun h => ⟨u, w, r, rfl, h⟩⟩
theorem e_i2l : ai_i2l n j R κ ls (.int x :: r) H = n κ ls (.long x.toInt64 :: r) H := by simp [ai_i2l]
theorem e_l2i : ai_l2i n j R κ ls (.long u :: r) H = n κ ls (.int u.toInt32 :: r) H := by simp [ai_l2i]
theorem e_i2b : ai_i2b n j R κ ls (.int x :: r) H = n κ ls (.int x.toInt8.toInt32 :: r) H := by simp [ai_i2b]
theorem e_dupi : ai_dup n j R κ ls (.int x :: r) H = n κ ls (.int x :: .int x :: r) H := by simp [ai_dup, Value.category]
theorem e_dupr : ai_dup n j R κ ls (.ref a :: r) H = n κ ls (.ref a :: .ref a :: r) H := by simp [ai_dup, Value.category]
theorem e_dup2 : ai_dup2 n j R κ ls (.int x :: .ref a :: r) H = n κ ls (.int x :: .ref a :: .int x :: .ref a :: r) H := by simp [ai_dup2, Value.category]
theorem e_getf {ci k : Nat} : ai_getf ci k n j R κ ls (.ref a :: r) H = ax_obj H a ci (fun fs => ax_at' fs k (fun v => n κ ls (v :: r) H)) := by simp [ai_getf, ax_obj, ax_at']
theorem e_at0 {P : Value → Prop} {t : List Value} : ax_at' (v :: t) 0 P = P v := by simp [ax_at']
theorem e_ats {P : Value → Prop} {t : List Value} {i : Nat} : ax_at' (v :: t) (i + 1) P = ax_at' t i P := by simp [ax_at']
theorem e_putI {ci k : Nat} : ai_putI ci k n j R κ ls (.int x :: .ref a :: r) H = ax_obj H a ci (fun fs => n κ ls r (ax_set H a (ci, fs.set k (.int x)))) := by simp [ai_putI, ax_obj]
theorem e_putL {ci k : Nat} : ai_putL ci k n j R κ ls (.long u :: .ref a :: r) H = ax_obj H a ci (fun fs => n κ ls r (ax_set H a (ci, fs.set k (.long u)))) := by simp [ai_putL, ax_obj]
theorem e_putR {ci k : Nat} : ai_putR ci k n j R κ ls (.ref b :: .ref a :: r) H = ax_obj H a ci (fun fs => n κ ls r (ax_set H a (ci, fs.set k (.ref b)))) := by simp [ai_putR, ax_obj]
theorem e_gets : ai_gets n j R κ ls r H = n κ ls (.ref 1 :: r) H := rfl
theorem e_alen {tg : Nat} : ai_alen tg n j R κ ls (.ref a :: r) H = ax_obj H a tg (fun vs => n κ ls (.int (nI vs.length) :: r) H) := by simp [ai_alen, ax_obj]
theorem e_iald {tg : Nat} : ai_iald tg n j R κ ls (.int x :: .ref a :: r) H = ax_obj H a tg (fun vs => ax_rd vs x (fun v => n κ ls (v :: r) H)) := by
  simp only [ai_iald, ax_obj, ax_rd]
  exact propext ⟨fun ⟨x', a', r', vs, v, h1, h2, h3, h4, h5⟩ => by cases h1; exact ⟨vs, h2, h3, v, h4, h5⟩, fun ⟨vs, h2, h3, v, h4, h5⟩ => ⟨x, a, r, vs, v, rfl, h2, h3, h4, h5⟩⟩
theorem e_iast : ai_iast n j R κ ls (.int y :: .int x :: .ref a :: r) H = ax_obj H a 21 (fun vs => ax_wr vs x (fun i => n κ ls r (ax_set H a (21, vs.set i (.int y))))) := by
  simp only [ai_iast, ax_obj, ax_wr]
  exact propext ⟨fun ⟨y', x', a', r', vs, h1, h2, h3, h4, h5⟩ => by cases h1; exact ⟨vs, h2, h3, h4, h5⟩, fun ⟨vs, h2, h3, h4, h5⟩ => ⟨y, x, a, r, vs, rfl, h2, h3, h4, h5⟩⟩
theorem e_bast : ai_bast n j R κ ls (.int y :: .int x :: .ref a :: r) H = ax_obj H a 22 (fun vs => (y = 0 ∨ y = 1) ∧ ax_wr vs x (fun i => n κ ls r (ax_set H a (22, vs.set i (.int y))))) := by
  simp only [ai_bast, ax_obj, ax_wr]
  exact propext ⟨fun ⟨y', x', a', r', vs, h1, h2, h0, h3, h4, h5⟩ => by cases h1; exact ⟨vs, h2, h0, h3, h4, h5⟩, fun ⟨vs, h2, h0, h3, h4, h5⟩ => ⟨y, x, a, r, vs, rfl, h2, h0, h3, h4, h5⟩⟩
theorem e_aast : ai_aast n j R κ ls (.ref b :: .int x :: .ref a :: r) H = ax_obj H a 24 (fun vs => ax_obj H b 0 (fun _ => ax_wr vs x (fun i => n κ ls r (ax_set H a (24, vs.set i (.ref b)))))) := by
  simp only [ai_aast, ax_obj, ax_wr]
  exact propext ⟨fun ⟨y', x', a', r', vs, fs, h1, h2, h0, h3, h4, h5⟩ => by cases h1; exact ⟨vs, h2, fs, h0, h3, h4, h5⟩, fun ⟨vs, h2, fs, h0, h3, h4, h5⟩ => ⟨b, x, a, r, vs, fs, rfl, h2, h0, h3, h4, h5⟩⟩
theorem e_if1 {f : Int32 → Prop} {t : Nat} : ai_if1 f t n j R κ ls (.int x :: r) H = ((f x → j t κ ls r H) ∧ (¬ f x → n κ ls r H)) := by simp [ai_if1]
theorem e_if2 {f : Int32 → Int32 → Prop} {t : Nat} : ai_if2 f t n j R κ ls (.int y :: .int x :: r) H = ((f x y → j t κ ls r H) ∧ (¬ f x y → n κ ls r H)) := propext ⟨fun ⟨x', y', r', h1, h2⟩ => by cases h1; exact h2, fun h => ⟨x, y, r, rfl, h⟩⟩
theorem e_goto {t : Nat} : ai_goto t n j R κ ls r H = j t κ ls r H := rfl
theorem e_sw {cs : List (Int32 × Nat)} {d : Nat} : ai_sw cs d n j R κ ls (.int x :: r) H = ax_sw x (fun t => j t κ ls r H) (j d κ ls r H) cs := by simp [ai_sw]
theorem e_iret : ai_iret n j R κ ls [.int x] H = R (some (.int x)) H := by simp [ai_iret]
theorem e_zret : ai_zret n j R κ ls [.int x] H = ((x = 0 ∨ x = 1) ∧ R (some (.int x)) H) := by simp [ai_zret]
theorem e_lret : ai_lret n j R κ ls [.long u] H = R (some (.long u)) H := by simp [ai_lret]
theorem e_vret : ai_vret n j R κ ls [] H = R none H := by simp [ai_vret]
theorem e_obji : ai_obji n j R κ ls (.ref a :: r) H = (r.length ≤ 4 ∧ n κ ls r H) := by simp [ai_obji]
end EV
