/-! taken over: rounds -/
def sm (f : Nat → Nat) : Nat → Nat → Nat
  | 0, _ => 0
  | z + 1, e => f e + sm f z (e + 1)
theorem bz_le (b : Bool) : bz b ≤ 1 := by cases b <;> simp [bz]
def ms_lc (c : Nat) : Nat := match ms_fs c 0 0 8 with
  | some q => if 1 < ms_pop c then nd c (2 ^ q) else c
  | none => c
theorem lc_some : ∀ c, c < 256 → 1 < ms_pop c → (ms_fs c 0 0 8).isSome = true := by decide +kernel
theorem ms_lc_lt : ∀ c, c < 256 → ms_lc c < 256 := by decide +kernel
theorem lc_one {c : Nat} (h : ¬ 1 < ms_pop c) : ms_lc c = c := by
  unfold ms_lc
  split
  · rw [if_neg h]
  · rfl
theorem lc_more {c : Nat} (hc : c < 256) (h : 1 < ms_pop c) : ∃ q, q < 8 ∧ ms_fs c 0 0 8 = some q ∧ ms_lc c = nd c (2 ^ q) := by
  have := lc_some c hc h
  cases e : ms_fs c 0 0 8 with
  | none => rw [e] at this; cases this
  | some q => exact ⟨q, (ms_fs_lt e).1, rfl, by unfold ms_lc; rw [e]; dsimp only; rw [if_pos h]⟩
abbrev rht (mn : cM) (n : Nat) (w : cR) : List Nat × Nat × Nat := ms_ht mn.1 mn.2.1 w.2.2.1 mn.2.2.2.1 (ms_play mn.1 mn.2.1 w.1 w.2.1 w.2.2.1 n, w.2.1, 0)
def rgs (mn : cM) (n : Nat) (w : cR) : cR := ((rht mn n w).1, (rht mn n w).2.1, ms_lc w.2.2.1, (rht mn n w).2.2, w.2.2.2.2.1 + n, w.2.2.2.2.2.1 + 1, w.2.2.2.2.2.2)
def rok (mc : Nat) (w : cR) : Prop := rwf mc w.1 w.2.1 w.2.2.1 ∧ (∀ e, w.2.1.testBit e = true → e < mc) ∧ w.1.length + w.2.2.2.2.2.2.length = 6
theorem rgs_ok {mn : cM} {mc n : Nat} {w : cR} (h : rok mc w) : rok mc (rgs mn n w) := by
  obtain ⟨h1, h2, h3⟩ := h
  have g := ms_ht_wf (ks := mn.1) (pcs := mn.2.1) mn.2.2.2.1 (ms_play mn.1 mn.2.1 w.1 w.2.1 w.2.2.1 n, w.2.1, 0) (ms_play_rwf h1) (show 0 < 256 by omega)
  refine ⟨⟨g.1.1, g.1.2.1, g.1.2.2.1, ms_lc_lt _ h1.2.2.2⟩, fun e he => h2 e (ms_ht_in (s := (ms_play mn.1 mn.2.1 w.1 w.2.1 w.2.2.1 n, w.2.1, 0)) he), ?_⟩
  have e1 : (rht mn n w).1.length = mc := g.1.1
  have e2 := h1.1
  show (rht mn n w).1.length + w.2.2.2.2.2.2.length = 6
  omega
theorem rgs_in {mn : cM} {n i : Nat} {w : cR} (h : w.2.1.testBit i = false) : (rgs mn n w).2.1.testBit i = false := by
  cases e : (rgs mn n w).2.1.testBit i
  · rfl
  · have := ms_ht_in (s := (ms_play mn.1 mn.2.1 w.1 w.2.1 w.2.2.1 n, w.2.1, 0)) (show (rht mn n w).2.1.testBit i = true from e)
    rw [show (ms_play mn.1 mn.2.1 w.1 w.2.1 w.2.2.1 n, w.2.1, 0).2.1 = w.2.1 from rfl, h] at this
    cases this
theorem rel_rok {s : cS} {m : mS} (h : Rel s m) : rok m.mc s.nw := ⟨rel_rw h, h.gnw.1.2.1, rel_l1 h⟩
section AD
variable {s : cS} {m : mS} {xs : List Value} {τ : ax_H} {R : cR} {n q : Nat}
theorem c_as_become (h : Rel s m) (hR : R.1.length + R.2.2.2.2.2.2.length = 6) : ax_ev mi_G_become [.ref 36, .ref 34] (lay xs s.rw s.tx s.rm s.rr s.nx s.mn s.ru s.nw R s.dd s.k0 s.k1 s.k2 s.fc s.lf s.td s.tu s.tl τ) none (lay xs s.rw s.tx s.rm s.rr s.nx s.mn s.ru s.nw (s.nw.1, s.nw.2.1, s.nw.2.2.1, R.2.2.2.1, s.nw.2.2.2.2.1, s.nw.2.2.2.2.2.1, s.nw.2.2.2.2.2.2) s.dd s.k0 s.k1 s.k2 s.fc s.lf s.td s.tu s.tl τ) := by
  obtain ⟨vp, vi, vc, vt, vb, vs, vr⟩ := R
  exact c_G_become (H := (lay xs s.rw s.tx s.rm s.rr s.nx s.mn s.ru s.nw (vp, vi, vc, vt, vb, vs, vr) s.dd s.k0 s.k1 s.k2 s.fc s.lf s.td s.tu s.tl τ)) (a := 36) (p := 37) (a2 := 34) (p2 := 35) (ps := vp) (ps2 := s.nw.1) (r := vr) (r2 := s.nw.2.2.2.2.2.2) (i := vi) (c := vc) (t := vt) (b := vb) (s := vs) (i2 := s.nw.2.1) (c2 := s.nw.2.2.1) (t2 := s.nw.2.2.2.1) (b2 := s.nw.2.2.2.2.1) (s2 := s.nw.2.2.2.2.2.1) (by rw [lay_len]; omega) (by rw [lay_len]; omega) (by omega) rfl rfl (by omega) (by omega) (by omega) (by omega) hR (rel_l1 h)
theorem c_as_play (h : Rel s m) (hR : rok m.mc R) (hn : n < 1000) : ax_ev mi_G_play [.ref 36, .ref 27, .int (nI n)] (lay xs s.rw s.tx s.rm s.rr s.nx s.mn s.ru s.nw R s.dd s.k0 s.k1 s.k2 s.fc s.lf s.td s.tu s.tl τ) none (lay xs s.rw s.tx s.rm s.rr s.nx s.mn s.ru s.nw (ms_play s.mn.1 s.mn.2.1 R.1 R.2.1 R.2.2.1 n, R.2.1, R.2.2.1, R.2.2.2.1, R.2.2.2.2.1 + n, R.2.2.2.2.2.1, R.2.2.2.2.2.2) s.dd s.k0 s.k1 s.k2 s.fc s.lf s.td s.tu s.tl τ) := by
  obtain ⟨vp, vi, vc, vt, vb, vs, vr⟩ := R
  have hr : rwf s.mn.1.length vp vi vc := by rw [rel_mc h]; exact hR.1
  exact c_G_play (H := (lay xs s.rw s.tx s.rm s.rr s.nx s.mn s.ru s.nw (vp, vi, vc, vt, vb, vs, vr) s.dd s.k0 s.k1 s.k2 s.fc s.lf s.td s.tu s.tl τ)) (a := 36) (p := 37) (n := s.mn.1.length) (m := n) (ks := s.mn.1) (pcs := s.mn.2.1) (cu := s.mn.2.2.1) (od := s.mn.2.2.2.1) (r := vr) (rk := s.mn.2.2.2.2.1) (rp := s.mn.2.2.2.2.2.1) (rc := s.mn.2.2.2.2.2.2.1) (ro := s.mn.2.2.2.2.2.2.2) (ps := vp) (i := vi) (c := vc) (t := vt) (b := vb) (s := vs) (by rw [lay_len]; omega) (by rw [lay_len]; omega) (by omega) (by omega) (by omega) ⟨rfl, rfl, rfl, rfl, rfl⟩ (rel_W h) hr hn
theorem c_as_halt (h : Rel s m) (hR : rwf m.mc R.1 R.2.1 R.2.2.1) : ax_ev mi_G_halt [.ref 36, .ref 27] (lay xs s.rw s.tx s.rm s.rr s.nx s.mn s.ru s.nw R s.dd s.k0 s.k1 s.k2 s.fc s.lf s.td s.tu s.tl τ) none (lay xs s.rw s.tx s.rm s.rr s.nx s.mn s.ru s.nw ((ms_ht s.mn.1 s.mn.2.1 R.2.2.1 s.mn.2.2.2.1 (R.1, R.2.1, 0)).1, (ms_ht s.mn.1 s.mn.2.1 R.2.2.1 s.mn.2.2.2.1 (R.1, R.2.1, 0)).2.1, R.2.2.1, (ms_ht s.mn.1 s.mn.2.1 R.2.2.1 s.mn.2.2.2.1 (R.1, R.2.1, 0)).2.2, R.2.2.2.2.1, R.2.2.2.2.2.1 + 1, R.2.2.2.2.2.2) s.dd s.k0 s.k1 s.k2 s.fc s.lf s.td s.tu s.tl τ) := by
  obtain ⟨vp, vi, vc, vt, vb, vs, vr⟩ := R
  have hr : rwf s.mn.1.length vp vi vc := by rw [rel_mc h]; exact hR
  exact c_G_halt (H := (lay xs s.rw s.tx s.rm s.rr s.nx s.mn s.ru s.nw (vp, vi, vc, vt, vb, vs, vr) s.dd s.k0 s.k1 s.k2 s.fc s.lf s.td s.tu s.tl τ)) (a := 36) (p := 37) (n := s.mn.1.length) (ks := s.mn.1) (pcs := s.mn.2.1) (cu := s.mn.2.2.1) (od := s.mn.2.2.2.1) (r := vr) (rk := s.mn.2.2.2.2.1) (rp := s.mn.2.2.2.2.2.1) (rc := s.mn.2.2.2.2.2.2.1) (ro := s.mn.2.2.2.2.2.2.2) (ps := vp) (i := vi) (c := vc) (t := vt) (b := vb) (s := vs) (by rw [lay_len]; omega) (by rw [lay_len]; omega) (by omega) (by omega) (by omega) ⟨rfl, rfl, rfl, rfl, rfl⟩ (rel_W h) hr
theorem c_as_more (hc : R.2.2.1 < 256) : ax_ev mi_G_hasMoreChairs [.ref 36] (lay xs s.rw s.tx s.rm s.rr s.nx s.mn s.ru s.nw R s.dd s.k0 s.k1 s.k2 s.fc s.lf s.td s.tu s.tl τ) (some (.int (nI (bz (decide (1 < ms_pop R.2.2.1)))))) (lay xs s.rw s.tx s.rm s.rr s.nx s.mn s.ru s.nw R s.dd s.k0 s.k1 s.k2 s.fc s.lf s.td s.tu s.tl τ) := by
  obtain ⟨vp, vi, vc, vt, vb, vs, vr⟩ := R
  exact c_G_more (H := (lay xs s.rw s.tx s.rm s.rr s.nx s.mn s.ru s.nw (vp, vi, vc, vt, vb, vs, vr) s.dd s.k0 s.k1 s.k2 s.fc s.lf s.td s.tu s.tl τ)) (a := 36) (p := 37) (ps := vp) (r := vr) (i := vi) (c := vc) (t := vt) (b := vb) (s := vs) (by rw [lay_len]; omega) hc
theorem c_as_least (hc : R.2.2.1 < 256) (hq : ms_fs R.2.2.1 0 0 8 = some q) : ax_ev mi_G_leastChair [.ref 36] (lay xs s.rw s.tx s.rm s.rr s.nx s.mn s.ru s.nw R s.dd s.k0 s.k1 s.k2 s.fc s.lf s.td s.tu s.tl τ) (some (.int (nI q))) (lay xs s.rw s.tx s.rm s.rr s.nx s.mn s.ru s.nw R s.dd s.k0 s.k1 s.k2 s.fc s.lf s.td s.tu s.tl τ) := by
  obtain ⟨vp, vi, vc, vt, vb, vs, vr⟩ := R
  have g := c_G_least (H := (lay xs s.rw s.tx s.rm s.rr s.nx s.mn s.ru s.nw (vp, vi, vc, vt, vb, vs, vr) s.dd s.k0 s.k1 s.k2 s.fc s.lf s.td s.tu s.tl τ)) (a := 36) (p := 37) (ps := vp) (r := vr) (i := vi) (c := vc) (t := vt) (b := vb) (s := vs) (by rw [lay_len]; omega) hc
  rw [show ms_fs vc 0 0 8 = some q from hq] at g
  exact g
theorem c_as_take (h : Rel s m) (hR : rwf m.mc R.1 R.2.1 R.2.2.1) (hq : q < 8) : ax_ev mi_G_undergo [.ref 36, .ref 27, .int (nI (2 + q))] (lay xs s.rw s.tx s.rm s.rr s.nx s.mn s.ru s.nw R s.dd s.k0 s.k1 s.k2 s.fc s.lf s.td s.tu s.tl τ) none (lay xs s.rw s.tx s.rm s.rr s.nx s.mn s.ru s.nw (R.1, R.2.1, nd R.2.2.1 (2 ^ q), R.2.2.2.1, R.2.2.2.2.1, R.2.2.2.2.2.1, R.2.2.2.2.2.2) s.dd s.k0 s.k1 s.k2 s.fc s.lf s.td s.tu s.tl τ) := by
  obtain ⟨vp, vi, vc, vt, vb, vs, vr⟩ := R
  have hr : rwf s.mn.1.length vp vi vc := by rw [rel_mc h]; exact hR
  have g := c_G_undergo (H := (lay xs s.rw s.tx s.rm s.rr s.nx s.mn s.ru s.nw (vp, vi, vc, vt, vb, vs, vr) s.dd s.k0 s.k1 s.k2 s.fc s.lf s.td s.tu s.tl τ)) (a := 36) (p := 37) (n := s.mn.1.length) (d := 2 + q) (ks := s.mn.1) (pcs := s.mn.2.1) (cu := s.mn.2.2.1) (od := s.mn.2.2.2.1) (r := vr) (rk := s.mn.2.2.2.2.1) (rp := s.mn.2.2.2.2.2.1) (rc := s.mn.2.2.2.2.2.2.1) (ro := s.mn.2.2.2.2.2.2.2) (g := (vp, vi, vc, vt, vb, vs)) (by rw [lay_len]; omega) (by rw [lay_len]; omega) (by omega) (by omega) (by omega) ⟨rfl, rfl, rfl, rfl, rfl⟩ (rel_W h) hr (Or.inl (by omega))
  have hug : ms_ug s.mn.1 s.mn.2.1 s.mn.2.2.2.1 (2 + q) (vp, vi, vc, vt, vb, vs) = (vp, vi, nd vc (2 ^ q), vt, vb, vs) := by
    unfold ms_ug
    dsimp only
    rw [if_neg (by omega), if_neg (by omega), if_pos (by omega), Nat.add_sub_cancel_left]
  rw [hug] at g
  exact g
end AD
def pdv : Nat → Nat → Nat
  | 0, x => x
  | j + 1, x => pdv j (x / 6)
def dig (p n k : Nat) : Nat := pdv (n - (k + 1)) p % 6
theorem pdv_le : ∀ j x, pdv j x ≤ x
  | 0, x => Nat.le_refl _
  | j + 1, x => Nat.le_trans (pdv_le j (x / 6)) (Nat.div_le_self _ _)
theorem dig_lt {p n k : Nat} : dig p n k < 6 := Nat.mod_lt _ (by omega)
theorem n60 : (¬ (6 : Nat) = 0) = True := by simp
theorem na_d6 {a : Nat} (h : a < 2 ^ 31) : nI a / nI 6 = nI (a / 6) := na_div h (by omega)
theorem na_r6 {a : Nat} (h : a < 2 ^ 31) : nI a - nI a / nI 6 * nI 6 = nI (a % 6) := na_rem h (by omega)
theorem r6_fold {a : Nat} (h : a < 2 ^ 31) : nI a - nI (a / 6) * nI 6 = nI (a % 6) := by rw [← na_d6 h]; exact na_r6 h
theorem c_C_pbars {p n k : Nat} {H : ax_H} (hp : p < 1000) (hn : n < 10) (hk : k < n) : ax_ev mi_C_plannedBars [.int (nI p), .int (nI n), .int (nI k)] H (some (.int (nI (dig p n k)))) H := by
  refine ax_beg 2 rfl rfl ?_
  simp only [ax_ent, List.replicate, List.cons_append, List.nil_append, List.append_nil]
  have loop : ∀ (z j x : Nat), j + z = n → x < 1000 → pdv z x % 6 = dig p n k → ax_go mi_C_plannedBars (fun v' H'' => v' = some (.int (nI (dig p n k))) ∧ H'' = H) 7 (0, 0) [some (.int (nI p)), some (.int (nI n)), some (.int (nI k)), some (.int (nI x)), some (.int (nI j))] [] H := by
    intro z
    induction z with
    | zero =>
      intro j x e1 e2 e3
      refine kk_C_plannedBars_7 _ _ _ _ _ ?_
      simp (disch := omega) only [bk_C_plannedBars_7, e_cons, e_il, e_ll, e_al, e_lc0, e_lcs, e_ei, e_el, e_er, e_const, e_istore, e_lstore, e_astore, e_iinc, e_s1_0, e_s1_1, e_s1_2, e_s1_3, e_s1_4, e_s1_5, e_s1_6, e_s1_7, e_s1_8, e_s1_9, e_s1_10, e_s2_0, e_s2_1, e_s2_2, e_s2_3, e_s2_4, e_s2_5, e_s2_6, e_s2_7, e_s2_8, e_s2_9, e_s2_10, e_dln, e_dli, e_dlr, e_dll, e_b, e_bd, e_lb, e_lbd, e_lcmp, e_i2l, e_l2i, e_i2b, e_dupi, e_dupr, e_dup2, e_getf, e_at0, e_ats, e_putI, e_putL, e_putR, e_gets, e_alen, e_iald, e_iast, e_bast, e_aast, e_if1, e_if2, e_goto, e_sw, e_iret, e_zret, e_lret, e_vret, e_obji, List.set_cons_zero, List.set_cons_succ, List.set_nil, Option.toList, List.nil_append, List.cons_append, List.length_cons, List.length_nil, true_or, or_true, true_and, and_true, nd_fold, Nat.one_mul, ↓m_1, ↓m_2, ↓m_3, ↓m_4, ↓m_9, ↓m_1000, nm_ne, nm_ne', nm_inj, nm_lt, nm_le, nm_gt, nm_ge, nm_xor, nm_add, Nat.add_sub_cancel, not_true_eq_false, not_false_eq_true, na_inj, na_le, na_lt, na_add, na_mul, na_and, na_or, na_xor, na_shl, na_shr, na_sub, i_0, i_1, i_2, i_3, i_4, i_5, i_6, i_7, i_8, i_9, i_10, i_12, i_16, i_20, i_21, i_32, i_40, i_60]
      refine ⟨fun _ => ?_, fun g => (by first | exact g.elim | exact absurd rfl g | exact absurd trivial g | exact absurd (Nat.le_refl _) g | (exfalso; omega) | exact absurd g (by decide) | exact absurd (show ¬ nI 1 = nI 0 by decide) g | exact absurd (by decide) g)⟩
      refine kk_C_plannedBars_24 _ _ _ _ _ ?_
      simp (disch := omega) only [bk_C_plannedBars_24, e_cons, e_il, e_ll, e_al, e_lc0, e_lcs, e_ei, e_el, e_er, e_const, e_istore, e_lstore, e_astore, e_iinc, e_s1_0, e_s1_1, e_s1_2, e_s1_3, e_s1_4, e_s1_5, e_s1_6, e_s1_7, e_s1_8, e_s1_9, e_s1_10, e_s2_0, e_s2_1, e_s2_2, e_s2_3, e_s2_4, e_s2_5, e_s2_6, e_s2_7, e_s2_8, e_s2_9, e_s2_10, e_dln, e_dli, e_dlr, e_dll, e_b, e_bd, e_lb, e_lbd, e_lcmp, e_i2l, e_l2i, e_i2b, e_dupi, e_dupr, e_dup2, e_getf, e_at0, e_ats, e_putI, e_putL, e_putR, e_gets, e_alen, e_iald, e_iast, e_bast, e_aast, e_if1, e_if2, e_goto, e_sw, e_iret, e_zret, e_lret, e_vret, e_obji, List.set_cons_zero, List.set_cons_succ, List.set_nil, Option.toList, List.nil_append, List.cons_append, List.length_cons, List.length_nil, true_or, or_true, true_and, and_true, nd_fold, Nat.one_mul, ↓m_1, ↓m_2, ↓m_3, ↓m_4, ↓m_9, ↓m_1000, nm_ne, nm_ne', nm_inj, nm_lt, nm_le, nm_gt, nm_ge, nm_xor, nm_add, Nat.add_sub_cancel, not_true_eq_false, not_false_eq_true, na_inj, na_le, na_lt, na_add, na_mul, na_and, na_or, na_xor, na_shl, na_shr, na_sub, i_0, i_1, i_2, i_3, i_4, i_5, i_6, i_7, i_8, i_9, i_10, i_12, i_16, i_20, i_21, i_32, i_40, i_60, ↓na_r6, n60]
      rw [← e3]
      all_goals first | exact ⟨rfl, rfl⟩ | exact rfl | exact trivial
    | succ z ih =>
      intro j x e1 e2 e3
      refine kk_C_plannedBars_7 _ _ _ _ _ ?_
      simp (disch := omega) only [bk_C_plannedBars_7, e_cons, e_il, e_ll, e_al, e_lc0, e_lcs, e_ei, e_el, e_er, e_const, e_istore, e_lstore, e_astore, e_iinc, e_s1_0, e_s1_1, e_s1_2, e_s1_3, e_s1_4, e_s1_5, e_s1_6, e_s1_7, e_s1_8, e_s1_9, e_s1_10, e_s2_0, e_s2_1, e_s2_2, e_s2_3, e_s2_4, e_s2_5, e_s2_6, e_s2_7, e_s2_8, e_s2_9, e_s2_10, e_dln, e_dli, e_dlr, e_dll, e_b, e_bd, e_lb, e_lbd, e_lcmp, e_i2l, e_l2i, e_i2b, e_dupi, e_dupr, e_dup2, e_getf, e_at0, e_ats, e_putI, e_putL, e_putR, e_gets, e_alen, e_iald, e_iast, e_bast, e_aast, e_if1, e_if2, e_goto, e_sw, e_iret, e_zret, e_lret, e_vret, e_obji, List.set_cons_zero, List.set_cons_succ, List.set_nil, Option.toList, List.nil_append, List.cons_append, List.length_cons, List.length_nil, true_or, or_true, true_and, and_true, nd_fold, Nat.one_mul, ↓m_1, ↓m_2, ↓m_3, ↓m_4, ↓m_9, ↓m_1000, nm_ne, nm_ne', nm_inj, nm_lt, nm_le, nm_gt, nm_ge, nm_xor, nm_add, Nat.add_sub_cancel, not_true_eq_false, not_false_eq_true, na_inj, na_le, na_lt, na_add, na_mul, na_and, na_or, na_xor, na_shl, na_shr, na_sub, i_0, i_1, i_2, i_3, i_4, i_5, i_6, i_7, i_8, i_9, i_10, i_12, i_16, i_20, i_21, i_32, i_40, i_60, na_d6, n60]
      refine ⟨fun g => (by first | exact g.elim | exact absurd rfl g | exact absurd trivial g | exact absurd (Nat.le_refl _) g | (exfalso; omega) | exact absurd g (by decide) | exact absurd (show ¬ nI 1 = nI 0 by decide) g | exact absurd (by decide) g), fun _ => ?_⟩
      exact ih (j + 1) (x / 6) (by omega) (by omega) e3
  refine kk_C_plannedBars_0 _ _ _ _ _ ?_
  simp (disch := omega) only [bk_C_plannedBars_0, e_cons, e_il, e_ll, e_al, e_lc0, e_lcs, e_ei, e_el, e_er, e_const, e_istore, e_lstore, e_astore, e_iinc, e_s1_0, e_s1_1, e_s1_2, e_s1_3, e_s1_4, e_s1_5, e_s1_6, e_s1_7, e_s1_8, e_s1_9, e_s1_10, e_s2_0, e_s2_1, e_s2_2, e_s2_3, e_s2_4, e_s2_5, e_s2_6, e_s2_7, e_s2_8, e_s2_9, e_s2_10, e_dln, e_dli, e_dlr, e_dll, e_b, e_bd, e_lb, e_lbd, e_lcmp, e_i2l, e_l2i, e_i2b, e_dupi, e_dupr, e_dup2, e_getf, e_at0, e_ats, e_putI, e_putL, e_putR, e_gets, e_alen, e_iald, e_iast, e_bast, e_aast, e_if1, e_if2, e_goto, e_sw, e_iret, e_zret, e_lret, e_vret, e_obji, List.set_cons_zero, List.set_cons_succ, List.set_nil, Option.toList, List.nil_append, List.cons_append, List.length_cons, List.length_nil, true_or, or_true, true_and, and_true, nd_fold, Nat.one_mul, ↓m_1, ↓m_2, ↓m_3, ↓m_4, ↓m_9, ↓m_1000, nm_ne, nm_ne', nm_inj, nm_lt, nm_le, nm_gt, nm_ge, nm_xor, nm_add, Nat.add_sub_cancel, not_true_eq_false, not_false_eq_true, na_inj, na_le, na_lt, na_add, na_mul, na_and, na_or, na_xor, na_shl, na_shr, na_sub, i_0, i_1, i_2, i_3, i_4, i_5, i_6, i_7, i_8, i_9, i_10, i_12, i_16, i_20, i_21, i_32, i_40, i_60]
  exact loop (n - (k + 1)) (k + 1) p (by omega) hp rfl
def psum (p n : Nat) : Nat := sm (dig p n) n 0
theorem psum_le {p n : Nat} : ∀ z k, sm (dig p n) z k ≤ 6 * z
  | 0, _ => Nat.le_refl _
  | z + 1, k => by
    have h1 := dig_lt (p := p) (n := n) (k := k)
    have h2 := psum_le (p := p) (n := n) z (k + 1)
    show dig p n k + sm (dig p n) z (k + 1) ≤ 6 * (z + 1)
    omega
theorem c_C_psum {p n : Nat} {H : ax_H} (hp : p < 1000) (hn : n < 10) : ax_ev mi_C_plannedSum [.int (nI p), .int (nI n)] H (some (.int (nI (psum p n)))) H := by
  refine ax_beg 2 rfl rfl ?_
  simp only [ax_ent, List.replicate, List.cons_append, List.nil_append, List.append_nil]
  have hb := psum_le (p := p) (n := n) n 0
  generalize hF : psum p n = F at *
  have loop : ∀ (z k a : Nat), k + z = n → a + sm (dig p n) z k = F → ax_go mi_C_plannedSum (fun v' H'' => v' = some (.int (nI F)) ∧ H'' = H) 4 (0, 0) [some (.int (nI p)), some (.int (nI n)), some (.int (nI a)), some (.int (nI k))] [] H := by
    intro z
    induction z with
    | zero =>
      intro k a e1 e2
      refine kk_C_plannedSum_4 _ _ _ _ _ ?_
      simp (disch := omega) only [bk_C_plannedSum_4, e_cons, e_il, e_ll, e_al, e_lc0, e_lcs, e_ei, e_el, e_er, e_const, e_istore, e_lstore, e_astore, e_iinc, e_s1_0, e_s1_1, e_s1_2, e_s1_3, e_s1_4, e_s1_5, e_s1_6, e_s1_7, e_s1_8, e_s1_9, e_s1_10, e_s2_0, e_s2_1, e_s2_2, e_s2_3, e_s2_4, e_s2_5, e_s2_6, e_s2_7, e_s2_8, e_s2_9, e_s2_10, e_dln, e_dli, e_dlr, e_dll, e_b, e_bd, e_lb, e_lbd, e_lcmp, e_i2l, e_l2i, e_i2b, e_dupi, e_dupr, e_dup2, e_getf, e_at0, e_ats, e_putI, e_putL, e_putR, e_gets, e_alen, e_iald, e_iast, e_bast, e_aast, e_if1, e_if2, e_goto, e_sw, e_iret, e_zret, e_lret, e_vret, e_obji, List.set_cons_zero, List.set_cons_succ, List.set_nil, Option.toList, List.nil_append, List.cons_append, List.length_cons, List.length_nil, true_or, or_true, true_and, and_true, nd_fold, Nat.one_mul, ↓m_1, ↓m_2, ↓m_3, ↓m_4, ↓m_9, ↓m_1000, nm_ne, nm_ne', nm_inj, nm_lt, nm_le, nm_gt, nm_ge, nm_xor, nm_add, Nat.add_sub_cancel, not_true_eq_false, not_false_eq_true, na_inj, na_le, na_lt, na_add, na_mul, na_and, na_or, na_xor, na_shl, na_shr, na_sub, i_0, i_1, i_2, i_3, i_4, i_5, i_6, i_7, i_8, i_9, i_10, i_12, i_16, i_20, i_21, i_32, i_40, i_60]
      refine ⟨fun _ => ?_, fun g => (by first | exact g.elim | exact absurd rfl g | exact absurd trivial g | exact absurd (Nat.le_refl _) g | (exfalso; omega) | exact absurd g (by decide) | exact absurd (show ¬ nI 1 = nI 0 by decide) g | exact absurd (by decide) g)⟩
      refine kk_C_plannedSum_24 _ _ _ _ _ ?_
      simp (disch := omega) only [bk_C_plannedSum_24, e_cons, e_il, e_ll, e_al, e_lc0, e_lcs, e_ei, e_el, e_er, e_const, e_istore, e_lstore, e_astore, e_iinc, e_s1_0, e_s1_1, e_s1_2, e_s1_3, e_s1_4, e_s1_5, e_s1_6, e_s1_7, e_s1_8, e_s1_9, e_s1_10, e_s2_0, e_s2_1, e_s2_2, e_s2_3, e_s2_4, e_s2_5, e_s2_6, e_s2_7, e_s2_8, e_s2_9, e_s2_10, e_dln, e_dli, e_dlr, e_dll, e_b, e_bd, e_lb, e_lbd, e_lcmp, e_i2l, e_l2i, e_i2b, e_dupi, e_dupr, e_dup2, e_getf, e_at0, e_ats, e_putI, e_putL, e_putR, e_gets, e_alen, e_iald, e_iast, e_bast, e_aast, e_if1, e_if2, e_goto, e_sw, e_iret, e_zret, e_lret, e_vret, e_obji, List.set_cons_zero, List.set_cons_succ, List.set_nil, Option.toList, List.nil_append, List.cons_append, List.length_cons, List.length_nil, true_or, or_true, true_and, and_true, nd_fold, Nat.one_mul, ↓m_1, ↓m_2, ↓m_3, ↓m_4, ↓m_9, ↓m_1000, nm_ne, nm_ne', nm_inj, nm_lt, nm_le, nm_gt, nm_ge, nm_xor, nm_add, Nat.add_sub_cancel, not_true_eq_false, not_false_eq_true, na_inj, na_le, na_lt, na_add, na_mul, na_and, na_or, na_xor, na_shl, na_shr, na_sub, i_0, i_1, i_2, i_3, i_4, i_5, i_6, i_7, i_8, i_9, i_10, i_12, i_16, i_20, i_21, i_32, i_40, i_60]
      exact zn e2
    | succ z ih =>
      intro k a e1 e2
      have e3 : a + (dig p n k + sm (dig p n) z (k + 1)) = F := e2
      refine kk_C_plannedSum_4 _ _ _ _ _ ?_
      simp (disch := omega) only [bk_C_plannedSum_4, e_cons, e_il, e_ll, e_al, e_lc0, e_lcs, e_ei, e_el, e_er, e_const, e_istore, e_lstore, e_astore, e_iinc, e_s1_0, e_s1_1, e_s1_2, e_s1_3, e_s1_4, e_s1_5, e_s1_6, e_s1_7, e_s1_8, e_s1_9, e_s1_10, e_s2_0, e_s2_1, e_s2_2, e_s2_3, e_s2_4, e_s2_5, e_s2_6, e_s2_7, e_s2_8, e_s2_9, e_s2_10, e_dln, e_dli, e_dlr, e_dll, e_b, e_bd, e_lb, e_lbd, e_lcmp, e_i2l, e_l2i, e_i2b, e_dupi, e_dupr, e_dup2, e_getf, e_at0, e_ats, e_putI, e_putL, e_putR, e_gets, e_alen, e_iald, e_iast, e_bast, e_aast, e_if1, e_if2, e_goto, e_sw, e_iret, e_zret, e_lret, e_vret, e_obji, List.set_cons_zero, List.set_cons_succ, List.set_nil, Option.toList, List.nil_append, List.cons_append, List.length_cons, List.length_nil, true_or, or_true, true_and, and_true, nd_fold, Nat.one_mul, ↓m_1, ↓m_2, ↓m_3, ↓m_4, ↓m_9, ↓m_1000, nm_ne, nm_ne', nm_inj, nm_lt, nm_le, nm_gt, nm_ge, nm_xor, nm_add, Nat.add_sub_cancel, not_true_eq_false, not_false_eq_true, na_inj, na_le, na_lt, na_add, na_mul, na_and, na_or, na_xor, na_shl, na_shr, na_sub, i_0, i_1, i_2, i_3, i_4, i_5, i_6, i_7, i_8, i_9, i_10, i_12, i_16, i_20, i_21, i_32, i_40, i_60]
      refine ⟨fun g => (by first | exact g.elim | exact absurd rfl g | exact absurd trivial g | exact absurd (Nat.le_refl _) g | (exfalso; omega) | exact absurd g (by decide) | exact absurd (show ¬ nI 1 = nI 0 by decide) g | exact absurd (by decide) g), fun _ => ?_⟩
      refine k_call (c_C_pbars hp hn (by omega)) rfl rfl rfl ?_
      simp (disch := omega) only [e_cons, e_il, e_ll, e_al, e_lc0, e_lcs, e_ei, e_el, e_er, e_const, e_istore, e_lstore, e_astore, e_iinc, e_s1_0, e_s1_1, e_s1_2, e_s1_3, e_s1_4, e_s1_5, e_s1_6, e_s1_7, e_s1_8, e_s1_9, e_s1_10, e_s2_0, e_s2_1, e_s2_2, e_s2_3, e_s2_4, e_s2_5, e_s2_6, e_s2_7, e_s2_8, e_s2_9, e_s2_10, e_dln, e_dli, e_dlr, e_dll, e_b, e_bd, e_lb, e_lbd, e_lcmp, e_i2l, e_l2i, e_i2b, e_dupi, e_dupr, e_dup2, e_getf, e_at0, e_ats, e_putI, e_putL, e_putR, e_gets, e_alen, e_iald, e_iast, e_bast, e_aast, e_if1, e_if2, e_goto, e_sw, e_iret, e_zret, e_lret, e_vret, e_obji, List.set_cons_zero, List.set_cons_succ, List.set_nil, Option.toList, List.nil_append, List.cons_append, List.length_cons, List.length_nil, true_or, or_true, true_and, and_true, nd_fold, Nat.one_mul, ↓m_1, ↓m_2, ↓m_3, ↓m_4, ↓m_9, ↓m_1000, nm_ne, nm_ne', nm_inj, nm_lt, nm_le, nm_gt, nm_ge, nm_xor, nm_add, Nat.add_sub_cancel, not_true_eq_false, not_false_eq_true, na_inj, na_le, na_lt, na_add, na_mul, na_and, na_or, na_xor, na_shl, na_shr, na_sub, i_0, i_1, i_2, i_3, i_4, i_5, i_6, i_7, i_8, i_9, i_10, i_12, i_16, i_20, i_21, i_32, i_40, i_60]
      exact ih (k + 1) _ (by omega) (by omega)
  refine kk_C_plannedSum_0 _ _ _ _ _ ?_
  simp (disch := omega) only [bk_C_plannedSum_0, e_cons, e_il, e_ll, e_al, e_lc0, e_lcs, e_ei, e_el, e_er, e_const, e_istore, e_lstore, e_astore, e_iinc, e_s1_0, e_s1_1, e_s1_2, e_s1_3, e_s1_4, e_s1_5, e_s1_6, e_s1_7, e_s1_8, e_s1_9, e_s1_10, e_s2_0, e_s2_1, e_s2_2, e_s2_3, e_s2_4, e_s2_5, e_s2_6, e_s2_7, e_s2_8, e_s2_9, e_s2_10, e_dln, e_dli, e_dlr, e_dll, e_b, e_bd, e_lb, e_lbd, e_lcmp, e_i2l, e_l2i, e_i2b, e_dupi, e_dupr, e_dup2, e_getf, e_at0, e_ats, e_putI, e_putL, e_putR, e_gets, e_alen, e_iald, e_iast, e_bast, e_aast, e_if1, e_if2, e_goto, e_sw, e_iret, e_zret, e_lret, e_vret, e_obji, List.set_cons_zero, List.set_cons_succ, List.set_nil, Option.toList, List.nil_append, List.cons_append, List.length_cons, List.length_nil, true_or, or_true, true_and, and_true, nd_fold, Nat.one_mul, ↓m_1, ↓m_2, ↓m_3, ↓m_4, ↓m_9, ↓m_1000, nm_ne, nm_ne', nm_inj, nm_lt, nm_le, nm_gt, nm_ge, nm_xor, nm_add, Nat.add_sub_cancel, not_true_eq_false, not_false_eq_true, na_inj, na_le, na_lt, na_add, na_mul, na_and, na_or, na_xor, na_shl, na_shr, na_sub, i_0, i_1, i_2, i_3, i_4, i_5, i_6, i_7, i_8, i_9, i_10, i_12, i_16, i_20, i_21, i_32, i_40, i_60]
  exact loop n 0 0 (by omega) (by rw [Nat.zero_add]; exact hF)
def rge (mn : cM) (i : Nat) (D : Nat → Nat) : Nat → Nat → cR → cR
  | 0, _, w => w
  | z + 1, k, w => if w.2.1.testBit i then rge mn i D z (k + 1) (rgs mn (D k) w) else w
theorem rge_ok {mn : cM} {mc i : Nat} {D : Nat → Nat} : ∀ {z k : Nat} {w : cR}, rok mc w → rok mc (rge mn i D z k w)
  | 0, _, _, h => h
  | z + 1, k, w, h => by
    unfold rge
    split
    · exact rge_ok (rgs_ok h)
    · exact h
def rgo (mn : cM) (D : Nat → Nat) : Nat → Nat → cR → cR
  | 0, _, w => w
  | z + 1, k, w => rgo mn D z (k + 1) (rgs mn (D k) w)
theorem rgo_in {mn : cM} {i : Nat} {D : Nat → Nat} : ∀ {z k : Nat} {w : cR}, w.2.1.testBit i = false → (rgo mn D z k w).2.1.testBit i = false
  | 0, _, _, h => h
  | z + 1, k, w, h => by unfold rgo; exact rgo_in (rgs_in h)
theorem rge_rgo {mn : cM} {i : Nat} {D : Nat → Nat} : ∀ {z k : Nat} {w v : cR}, w.1 = v.1 → w.2.1 = v.2.1 → w.2.2.1 = v.2.2.1 → (rge mn i D z k w).2.1.testBit i = (rgo mn D z k v).2.1.testBit i
  | 0, _, w, v, _, h, _ => by show w.2.1.testBit i = v.2.1.testBit i; rw [h]
  | z + 1, k, w, v, h1, h2, h3 => by
    unfold rge rgo
    have e : rht mn (D k) w = rht mn (D k) v := by unfold rht; rw [h1, h2, h3]
    cases hb : w.2.1.testBit i
    · rw [if_neg (by simp), hb]
      exact (rgo_in (rgs_in (by rw [← h2]; exact hb))).symm
    · rw [if_pos rfl]
      refine rge_rgo ?_ ?_ ?_
      · show (rht mn (D k) w).1 = (rht mn (D k) v).1; rw [e]
      · show (rht mn (D k) w).2.1 = (rht mn (D k) v).2.1; rw [e]
      · show ms_lc w.2.2.1 = ms_lc v.2.2.1; rw [h3]
def rst (s : cS) (R : cR) : cR := (s.nw.1, s.nw.2.1, s.nw.2.2.1, R.2.2.2.1, s.nw.2.2.2.2.1, s.nw.2.2.2.2.2.1, s.nw.2.2.2.2.2.2)
theorem rst_ok {s : cS} {m : mS} {R : cR} (h : Rel s m) : rok m.mc (rst s R) := rel_rok h
def rra (s : cS) (i n p : Nat) (R : cR) : cR := rge s.mn i (dig p n) n 0 (rst s R)
theorem rra_ok {s : cS} {m : mS} {i n p : Nat} {R : cR} (h : Rel s m) : rok m.mc (rra s i n p R) := rge_ok (rst_ok h)
def pin (s : cS) (i n p : Nat) : Bool := (rgo s.mn (dig p n) n 0 s.nw).2.1.testBit i
theorem rra_in {s : cS} {i n p : Nat} {R : cR} : (rra s i n p R).2.1.testBit i = pin s i n p := rge_rgo rfl rfl rfl
theorem c_C_inPlan {s : cS} {m : mS} {xs : List Value} {τ : ax_H} {R : cR} {i n p : Nat} (h : Rel s m) (hR : R.1.length + R.2.2.2.2.2.2.length = 6) (hi : i < m.mc) (hn : n < 10) (hp : p < 1000) : ax_ev mi_C_isInByPlan [.ref 2, .int (nI i), .int (nI n), .int (nI p)] (lay xs s.rw s.tx s.rm s.rr s.nx s.mn s.ru s.nw R s.dd s.k0 s.k1 s.k2 s.fc s.lf s.td s.tu s.tl τ) (some (.int (nI (bz (pin s i n p))))) (lay xs s.rw s.tx s.rm s.rr s.nx s.mn s.ru s.nw (rra s i n p R) s.dd s.k0 s.k1 s.k2 s.fc s.lf s.td s.tu s.tl τ) := by
  have hm6 : m.mc ≤ 6 := h.mis.1.1
  have isin : ∀ (W : cR), rok m.mc W → ax_ev mi_G_isIn [.ref 36, .int (nI i)] (lay xs s.rw s.tx s.rm s.rr s.nx s.mn s.ru s.nw W s.dd s.k0 s.k1 s.k2 s.fc s.lf s.td s.tu s.tl τ) (some (.int (nI (bz (W.2.1.testBit i))))) (lay xs s.rw s.tx s.rm s.rr s.nx s.mn s.ru s.nw W s.dd s.k0 s.k1 s.k2 s.fc s.lf s.td s.tu s.tl τ) := by
    intro W hW
    exact c_isIn_as (ra := W) hW.1.2.2.1 (show i < 32 by omega)
  refine ax_beg 1 rfl rfl ?_
  simp only [ax_ent, List.replicate, List.cons_append, List.nil_append, List.append_nil]
  have hbi := bz_01 (pin s i n p)
  generalize hF : rra s i n p R = F
  have hpi : F.2.1.testBit i = pin s i n p := by rw [← hF]; exact rra_in
  have hFok : rok m.mc F := by rw [← hF]; exact rra_ok h
  have fin : ∀ l4, ax_go mi_C_isInByPlan (fun v' H'' => v' = some (.int (nI (bz (pin s i n p)))) ∧ H'' = (lay xs s.rw s.tx s.rm s.rr s.nx s.mn s.ru s.nw F s.dd s.k0 s.k1 s.k2 s.fc s.lf s.td s.tu s.tl τ)) 96 (0, 0) [some (.ref 2), some (.int (nI i)), some (.int (nI n)), some (.int (nI p)), l4] [] (lay xs s.rw s.tx s.rm s.rr s.nx s.mn s.ru s.nw F s.dd s.k0 s.k1 s.k2 s.fc s.lf s.td s.tu s.tl τ) := by
    intro l4
    refine kk_C_isInByPlan_96 _ _ _ _ _ ?_
    simp (disch := omega) only [bk_C_isInByPlan_96, e_cons, e_il, e_ll, e_al, e_lc0, e_lcs, e_ei, e_el, e_er, e_const, e_istore, e_lstore, e_astore, e_iinc, e_s1_0, e_s1_1, e_s1_2, e_s1_3, e_s1_4, e_s1_5, e_s1_6, e_s1_7, e_s1_8, e_s1_9, e_s1_10, e_s2_0, e_s2_1, e_s2_2, e_s2_3, e_s2_4, e_s2_5, e_s2_6, e_s2_7, e_s2_8, e_s2_9, e_s2_10, e_dln, e_dli, e_dlr, e_dll, e_b, e_bd, e_lb, e_lbd, e_lcmp, e_i2l, e_l2i, e_i2b, e_dupi, e_dupr, e_dup2, e_getf, e_at0, e_ats, e_putI, e_putL, e_putR, e_gets, e_alen, e_iald, e_iast, e_bast, e_aast, e_if1, e_if2, e_goto, e_sw, e_iret, e_zret, e_lret, e_vret, e_obji, List.set_cons_zero, List.set_cons_succ, List.set_nil, Option.toList, List.nil_append, List.cons_append, List.length_cons, List.length_nil, true_or, or_true, true_and, and_true, nd_fold, Nat.one_mul, ↓m_1, ↓m_2, ↓m_3, ↓m_4, ↓m_9, ↓m_1000, nm_ne, nm_ne', nm_inj, nm_lt, nm_le, nm_gt, nm_ge, nm_xor, nm_add, Nat.add_sub_cancel, not_true_eq_false, not_false_eq_true, na_inj, na_le, na_lt, na_add, na_mul, na_and, na_or, na_xor, na_shl, na_shr, na_sub, i_0, i_1, i_2, i_3, i_4, i_5, i_6, i_7, i_8, i_9, i_10, i_12, i_16, i_20, i_21, i_32, i_40, i_60, oq_2]
    refine k_callV gl_36 (isin F hFok) rfl rfl rfl ?_
    rw [hpi]
    simp (disch := omega) only [e_cons, e_il, e_ll, e_al, e_lc0, e_lcs, e_ei, e_el, e_er, e_const, e_istore, e_lstore, e_astore, e_iinc, e_s1_0, e_s1_1, e_s1_2, e_s1_3, e_s1_4, e_s1_5, e_s1_6, e_s1_7, e_s1_8, e_s1_9, e_s1_10, e_s2_0, e_s2_1, e_s2_2, e_s2_3, e_s2_4, e_s2_5, e_s2_6, e_s2_7, e_s2_8, e_s2_9, e_s2_10, e_dln, e_dli, e_dlr, e_dll, e_b, e_bd, e_lb, e_lbd, e_lcmp, e_i2l, e_l2i, e_i2b, e_dupi, e_dupr, e_dup2, e_getf, e_at0, e_ats, e_putI, e_putL, e_putR, e_gets, e_alen, e_iald, e_iast, e_bast, e_aast, e_if1, e_if2, e_goto, e_sw, e_iret, e_zret, e_lret, e_vret, e_obji, List.set_cons_zero, List.set_cons_succ, List.set_nil, Option.toList, List.nil_append, List.cons_append, List.length_cons, List.length_nil, true_or, or_true, true_and, and_true, nd_fold, Nat.one_mul, ↓m_1, ↓m_2, ↓m_3, ↓m_4, ↓m_9, ↓m_1000, nm_ne, nm_ne', nm_inj, nm_lt, nm_le, nm_gt, nm_ge, nm_xor, nm_add, Nat.add_sub_cancel, not_true_eq_false, not_false_eq_true, na_inj, na_le, na_lt, na_add, na_mul, na_and, na_or, na_xor, na_shl, na_shr, na_sub, i_0, i_1, i_2, i_3, i_4, i_5, i_6, i_7, i_8, i_9, i_10, i_12, i_16, i_20, i_21, i_32, i_40, i_60]
    omega
  have loop : ∀ (z k : Nat) (W : cR), k + z = n → rok m.mc W → rge s.mn i (dig p n) z k W = F → ax_go mi_C_isInByPlan (fun v' H'' => v' = some (.int (nI (bz (pin s i n p)))) ∧ H'' = (lay xs s.rw s.tx s.rm s.rr s.nx s.mn s.ru s.nw F s.dd s.k0 s.k1 s.k2 s.fc s.lf s.td s.tu s.tl τ)) 14 (0, 0) [some (.ref 2), some (.int (nI i)), some (.int (nI n)), some (.int (nI p)), some (.int (nI k))] [] (lay xs s.rw s.tx s.rm s.rr s.nx s.mn s.ru s.nw W s.dd s.k0 s.k1 s.k2 s.fc s.lf s.td s.tu s.tl τ) := by
    intro z
    induction z with
    | zero =>
      intro k W e1 e2 e3
      have e4 : W = F := e3
      subst e4
      refine kk_C_isInByPlan_14 _ _ _ _ _ ?_
      simp (disch := omega) only [bk_C_isInByPlan_14, e_cons, e_il, e_ll, e_al, e_lc0, e_lcs, e_ei, e_el, e_er, e_const, e_istore, e_lstore, e_astore, e_iinc, e_s1_0, e_s1_1, e_s1_2, e_s1_3, e_s1_4, e_s1_5, e_s1_6, e_s1_7, e_s1_8, e_s1_9, e_s1_10, e_s2_0, e_s2_1, e_s2_2, e_s2_3, e_s2_4, e_s2_5, e_s2_6, e_s2_7, e_s2_8, e_s2_9, e_s2_10, e_dln, e_dli, e_dlr, e_dll, e_b, e_bd, e_lb, e_lbd, e_lcmp, e_i2l, e_l2i, e_i2b, e_dupi, e_dupr, e_dup2, e_getf, e_at0, e_ats, e_putI, e_putL, e_putR, e_gets, e_alen, e_iald, e_iast, e_bast, e_aast, e_if1, e_if2, e_goto, e_sw, e_iret, e_zret, e_lret, e_vret, e_obji, List.set_cons_zero, List.set_cons_succ, List.set_nil, Option.toList, List.nil_append, List.cons_append, List.length_cons, List.length_nil, true_or, or_true, true_and, and_true, nd_fold, Nat.one_mul, ↓m_1, ↓m_2, ↓m_3, ↓m_4, ↓m_9, ↓m_1000, nm_ne, nm_ne', nm_inj, nm_lt, nm_le, nm_gt, nm_ge, nm_xor, nm_add, Nat.add_sub_cancel, not_true_eq_false, not_false_eq_true, na_inj, na_le, na_lt, na_add, na_mul, na_and, na_or, na_xor, na_shl, na_shr, na_sub, i_0, i_1, i_2, i_3, i_4, i_5, i_6, i_7, i_8, i_9, i_10, i_12, i_16, i_20, i_21, i_32, i_40, i_60]
      refine ⟨fun _ => ?_, fun g => (by first | exact g.elim | exact absurd rfl g | exact absurd trivial g | exact absurd (Nat.le_refl _) g | (exfalso; omega) | exact absurd g (by decide) | exact absurd (show ¬ nI 1 = nI 0 by decide) g | exact absurd (by decide) g)⟩
      exact fin _
    | succ z ih =>
      intro k W e1 e2 e3
      unfold rge at e3
      have hd := dig_lt (p := p) (n := n) (k := k)
      refine kk_C_isInByPlan_14 _ _ _ _ _ ?_
      simp (disch := omega) only [bk_C_isInByPlan_14, e_cons, e_il, e_ll, e_al, e_lc0, e_lcs, e_ei, e_el, e_er, e_const, e_istore, e_lstore, e_astore, e_iinc, e_s1_0, e_s1_1, e_s1_2, e_s1_3, e_s1_4, e_s1_5, e_s1_6, e_s1_7, e_s1_8, e_s1_9, e_s1_10, e_s2_0, e_s2_1, e_s2_2, e_s2_3, e_s2_4, e_s2_5, e_s2_6, e_s2_7, e_s2_8, e_s2_9, e_s2_10, e_dln, e_dli, e_dlr, e_dll, e_b, e_bd, e_lb, e_lbd, e_lcmp, e_i2l, e_l2i, e_i2b, e_dupi, e_dupr, e_dup2, e_getf, e_at0, e_ats, e_putI, e_putL, e_putR, e_gets, e_alen, e_iald, e_iast, e_bast, e_aast, e_if1, e_if2, e_goto, e_sw, e_iret, e_zret, e_lret, e_vret, e_obji, List.set_cons_zero, List.set_cons_succ, List.set_nil, Option.toList, List.nil_append, List.cons_append, List.length_cons, List.length_nil, true_or, or_true, true_and, and_true, nd_fold, Nat.one_mul, ↓m_1, ↓m_2, ↓m_3, ↓m_4, ↓m_9, ↓m_1000, nm_ne, nm_ne', nm_inj, nm_lt, nm_le, nm_gt, nm_ge, nm_xor, nm_add, Nat.add_sub_cancel, not_true_eq_false, not_false_eq_true, na_inj, na_le, na_lt, na_add, na_mul, na_and, na_or, na_xor, na_shl, na_shr, na_sub, i_0, i_1, i_2, i_3, i_4, i_5, i_6, i_7, i_8, i_9, i_10, i_12, i_16, i_20, i_21, i_32, i_40, i_60, oq_2]
      refine ⟨fun g => (by first | exact g.elim | exact absurd rfl g | exact absurd trivial g | exact absurd (Nat.le_refl _) g | (exfalso; omega) | exact absurd g (by decide) | exact absurd (show ¬ nI 1 = nI 0 by decide) g | exact absurd (by decide) g), fun _ => ?_⟩
      refine k_callV gl_36 (isin W e2) rfl rfl rfl ?_
      simp (disch := omega) only [e_cons, e_il, e_ll, e_al, e_lc0, e_lcs, e_ei, e_el, e_er, e_const, e_istore, e_lstore, e_astore, e_iinc, e_s1_0, e_s1_1, e_s1_2, e_s1_3, e_s1_4, e_s1_5, e_s1_6, e_s1_7, e_s1_8, e_s1_9, e_s1_10, e_s2_0, e_s2_1, e_s2_2, e_s2_3, e_s2_4, e_s2_5, e_s2_6, e_s2_7, e_s2_8, e_s2_9, e_s2_10, e_dln, e_dli, e_dlr, e_dll, e_b, e_bd, e_lb, e_lbd, e_lcmp, e_i2l, e_l2i, e_i2b, e_dupi, e_dupr, e_dup2, e_getf, e_at0, e_ats, e_putI, e_putL, e_putR, e_gets, e_alen, e_iald, e_iast, e_bast, e_aast, e_if1, e_if2, e_goto, e_sw, e_iret, e_zret, e_lret, e_vret, e_obji, List.set_cons_zero, List.set_cons_succ, List.set_nil, Option.toList, List.nil_append, List.cons_append, List.length_cons, List.length_nil, true_or, or_true, true_and, and_true, nd_fold, Nat.one_mul, ↓m_1, ↓m_2, ↓m_3, ↓m_4, ↓m_9, ↓m_1000, nm_ne, nm_ne', nm_inj, nm_lt, nm_le, nm_gt, nm_ge, nm_xor, nm_add, Nat.add_sub_cancel, not_true_eq_false, not_false_eq_true, na_inj, na_le, na_lt, na_add, na_mul, na_and, na_or, na_xor, na_shl, na_shr, na_sub, i_0, i_1, i_2, i_3, i_4, i_5, i_6, i_7, i_8, i_9, i_10, i_12, i_16, i_20, i_21, i_32, i_40, i_60, oq_2]
      refine ⟨fun g => ?_, fun g => ?_⟩
      · rw [bzf g, if_neg (by simp)] at e3
        rw [e3]
        exact fin _
      · rw [bzt g, if_pos rfl] at e3
        have ok2 := rgs_ok (mn := s.mn) (n := dig p n k) e2
        have wf2 := ms_ht_wf (ks := s.mn.1) (pcs := s.mn.2.1) s.mn.2.2.2.1 (ms_play s.mn.1 s.mn.2.1 W.1 W.2.1 W.2.2.1 (dig p n k), W.2.1, 0) (ms_play_rwf e2.1) (show 0 < 256 by omega)
        have nxt := ih (k + 1) (rgs s.mn (dig p n k) W) (by omega) ok2 e3
        have hc := e2.1.2.2.2
        refine k_call (c_C_pbars hp hn (by omega)) rfl rfl rfl ?_
        simp (disch := omega) only [e_cons, e_il, e_ll, e_al, e_lc0, e_lcs, e_ei, e_el, e_er, e_const, e_istore, e_lstore, e_astore, e_iinc, e_s1_0, e_s1_1, e_s1_2, e_s1_3, e_s1_4, e_s1_5, e_s1_6, e_s1_7, e_s1_8, e_s1_9, e_s1_10, e_s2_0, e_s2_1, e_s2_2, e_s2_3, e_s2_4, e_s2_5, e_s2_6, e_s2_7, e_s2_8, e_s2_9, e_s2_10, e_dln, e_dli, e_dlr, e_dll, e_b, e_bd, e_lb, e_lbd, e_lcmp, e_i2l, e_l2i, e_i2b, e_dupi, e_dupr, e_dup2, e_getf, e_at0, e_ats, e_putI, e_putL, e_putR, e_gets, e_alen, e_iald, e_iast, e_bast, e_aast, e_if1, e_if2, e_goto, e_sw, e_iret, e_zret, e_lret, e_vret, e_obji, List.set_cons_zero, List.set_cons_succ, List.set_nil, Option.toList, List.nil_append, List.cons_append, List.length_cons, List.length_nil, true_or, or_true, true_and, and_true, nd_fold, Nat.one_mul, ↓m_1, ↓m_2, ↓m_3, ↓m_4, ↓m_9, ↓m_1000, nm_ne, nm_ne', nm_inj, nm_lt, nm_le, nm_gt, nm_ge, nm_xor, nm_add, Nat.add_sub_cancel, not_true_eq_false, not_false_eq_true, na_inj, na_le, na_lt, na_add, na_mul, na_and, na_or, na_xor, na_shl, na_shr, na_sub, i_0, i_1, i_2, i_3, i_4, i_5, i_6, i_7, i_8, i_9, i_10, i_12, i_16, i_20, i_21, i_32, i_40, i_60]
        refine k_callV gl_36 (c_as_play h e2 (show dig p n k < 1000 by omega)) rfl rfl rfl ?_
        simp (disch := omega) only [e_cons, e_il, e_ll, e_al, e_lc0, e_lcs, e_ei, e_el, e_er, e_const, e_istore, e_lstore, e_astore, e_iinc, e_s1_0, e_s1_1, e_s1_2, e_s1_3, e_s1_4, e_s1_5, e_s1_6, e_s1_7, e_s1_8, e_s1_9, e_s1_10, e_s2_0, e_s2_1, e_s2_2, e_s2_3, e_s2_4, e_s2_5, e_s2_6, e_s2_7, e_s2_8, e_s2_9, e_s2_10, e_dln, e_dli, e_dlr, e_dll, e_b, e_bd, e_lb, e_lbd, e_lcmp, e_i2l, e_l2i, e_i2b, e_dupi, e_dupr, e_dup2, e_getf, e_at0, e_ats, e_putI, e_putL, e_putR, e_gets, e_alen, e_iald, e_iast, e_bast, e_aast, e_if1, e_if2, e_goto, e_sw, e_iret, e_zret, e_lret, e_vret, e_obji, List.set_cons_zero, List.set_cons_succ, List.set_nil, Option.toList, List.nil_append, List.cons_append, List.length_cons, List.length_nil, true_or, or_true, true_and, and_true, nd_fold, Nat.one_mul, ↓m_1, ↓m_2, ↓m_3, ↓m_4, ↓m_9, ↓m_1000, nm_ne, nm_ne', nm_inj, nm_lt, nm_le, nm_gt, nm_ge, nm_xor, nm_add, Nat.add_sub_cancel, not_true_eq_false, not_false_eq_true, na_inj, na_le, na_lt, na_add, na_mul, na_and, na_or, na_xor, na_shl, na_shr, na_sub, i_0, i_1, i_2, i_3, i_4, i_5, i_6, i_7, i_8, i_9, i_10, i_12, i_16, i_20, i_21, i_32, i_40, i_60, oq_2]
        refine k_callV gl_36 (c_as_halt h (ms_play_rwf e2.1)) rfl rfl rfl ?_
        simp (disch := omega) only [e_cons, e_il, e_ll, e_al, e_lc0, e_lcs, e_ei, e_el, e_er, e_const, e_istore, e_lstore, e_astore, e_iinc, e_s1_0, e_s1_1, e_s1_2, e_s1_3, e_s1_4, e_s1_5, e_s1_6, e_s1_7, e_s1_8, e_s1_9, e_s1_10, e_s2_0, e_s2_1, e_s2_2, e_s2_3, e_s2_4, e_s2_5, e_s2_6, e_s2_7, e_s2_8, e_s2_9, e_s2_10, e_dln, e_dli, e_dlr, e_dll, e_b, e_bd, e_lb, e_lbd, e_lcmp, e_i2l, e_l2i, e_i2b, e_dupi, e_dupr, e_dup2, e_getf, e_at0, e_ats, e_putI, e_putL, e_putR, e_gets, e_alen, e_iald, e_iast, e_bast, e_aast, e_if1, e_if2, e_goto, e_sw, e_iret, e_zret, e_lret, e_vret, e_obji, List.set_cons_zero, List.set_cons_succ, List.set_nil, Option.toList, List.nil_append, List.cons_append, List.length_cons, List.length_nil, true_or, or_true, true_and, and_true, nd_fold, Nat.one_mul, ↓m_1, ↓m_2, ↓m_3, ↓m_4, ↓m_9, ↓m_1000, nm_ne, nm_ne', nm_inj, nm_lt, nm_le, nm_gt, nm_ge, nm_xor, nm_add, Nat.add_sub_cancel, not_true_eq_false, not_false_eq_true, na_inj, na_le, na_lt, na_add, na_mul, na_and, na_or, na_xor, na_shl, na_shr, na_sub, i_0, i_1, i_2, i_3, i_4, i_5, i_6, i_7, i_8, i_9, i_10, i_12, i_16, i_20, i_21, i_32, i_40, i_60, oq_2]
        refine k_callV gl_36 (c_as_more hc) rfl rfl rfl ?_
        by_cases hmo : 1 < ms_pop W.2.2.1
        · obtain ⟨q, hq8, hq, hlc⟩ := lc_more hc hmo
          unfold rgs at nxt
          rw [hlc] at nxt
          rw [decide_eq_true hmo]
          simp (disch := omega) only [e_cons, e_il, e_ll, e_al, e_lc0, e_lcs, e_ei, e_el, e_er, e_const, e_istore, e_lstore, e_astore, e_iinc, e_s1_0, e_s1_1, e_s1_2, e_s1_3, e_s1_4, e_s1_5, e_s1_6, e_s1_7, e_s1_8, e_s1_9, e_s1_10, e_s2_0, e_s2_1, e_s2_2, e_s2_3, e_s2_4, e_s2_5, e_s2_6, e_s2_7, e_s2_8, e_s2_9, e_s2_10, e_dln, e_dli, e_dlr, e_dll, e_b, e_bd, e_lb, e_lbd, e_lcmp, e_i2l, e_l2i, e_i2b, e_dupi, e_dupr, e_dup2, e_getf, e_at0, e_ats, e_putI, e_putL, e_putR, e_gets, e_alen, e_iald, e_iast, e_bast, e_aast, e_if1, e_if2, e_goto, e_sw, e_iret, e_zret, e_lret, e_vret, e_obji, List.set_cons_zero, List.set_cons_succ, List.set_nil, Option.toList, List.nil_append, List.cons_append, List.length_cons, List.length_nil, true_or, or_true, true_and, and_true, nd_fold, Nat.one_mul, ↓m_1, ↓m_2, ↓m_3, ↓m_4, ↓m_9, ↓m_1000, nm_ne, nm_ne', nm_inj, nm_lt, nm_le, nm_gt, nm_ge, nm_xor, nm_add, Nat.add_sub_cancel, not_true_eq_false, not_false_eq_true, na_inj, na_le, na_lt, na_add, na_mul, na_and, na_or, na_xor, na_shl, na_shr, na_sub, i_0, i_1, i_2, i_3, i_4, i_5, i_6, i_7, i_8, i_9, i_10, i_12, i_16, i_20, i_21, i_32, i_40, i_60, oq_2]
          refine ⟨fun g => (by first | exact g.elim | exact absurd rfl g | exact absurd trivial g | exact absurd (Nat.le_refl _) g | (exfalso; omega) | exact absurd g (by decide) | exact absurd (show ¬ nI 1 = nI 0 by decide) g | exact absurd (by decide) g), fun _ => ?_⟩
          refine k_callV gl_36 (c_as_least hc hq) rfl rfl rfl ?_
          simp (disch := omega) only [e_cons, e_il, e_ll, e_al, e_lc0, e_lcs, e_ei, e_el, e_er, e_const, e_istore, e_lstore, e_astore, e_iinc, e_s1_0, e_s1_1, e_s1_2, e_s1_3, e_s1_4, e_s1_5, e_s1_6, e_s1_7, e_s1_8, e_s1_9, e_s1_10, e_s2_0, e_s2_1, e_s2_2, e_s2_3, e_s2_4, e_s2_5, e_s2_6, e_s2_7, e_s2_8, e_s2_9, e_s2_10, e_dln, e_dli, e_dlr, e_dll, e_b, e_bd, e_lb, e_lbd, e_lcmp, e_i2l, e_l2i, e_i2b, e_dupi, e_dupr, e_dup2, e_getf, e_at0, e_ats, e_putI, e_putL, e_putR, e_gets, e_alen, e_iald, e_iast, e_bast, e_aast, e_if1, e_if2, e_goto, e_sw, e_iret, e_zret, e_lret, e_vret, e_obji, List.set_cons_zero, List.set_cons_succ, List.set_nil, Option.toList, List.nil_append, List.cons_append, List.length_cons, List.length_nil, true_or, or_true, true_and, and_true, nd_fold, Nat.one_mul, ↓m_1, ↓m_2, ↓m_3, ↓m_4, ↓m_9, ↓m_1000, nm_ne, nm_ne', nm_inj, nm_lt, nm_le, nm_gt, nm_ge, nm_xor, nm_add, Nat.add_sub_cancel, not_true_eq_false, not_false_eq_true, na_inj, na_le, na_lt, na_add, na_mul, na_and, na_or, na_xor, na_shl, na_shr, na_sub, i_0, i_1, i_2, i_3, i_4, i_5, i_6, i_7, i_8, i_9, i_10, i_12, i_16, i_20, i_21, i_32, i_40, i_60]
          refine k_callV gl_36 (c_as_take h wf2.1 hq8) rfl rfl rfl ?_
          simp (disch := omega) only [e_cons, e_il, e_ll, e_al, e_lc0, e_lcs, e_ei, e_el, e_er, e_const, e_istore, e_lstore, e_astore, e_iinc, e_s1_0, e_s1_1, e_s1_2, e_s1_3, e_s1_4, e_s1_5, e_s1_6, e_s1_7, e_s1_8, e_s1_9, e_s1_10, e_s2_0, e_s2_1, e_s2_2, e_s2_3, e_s2_4, e_s2_5, e_s2_6, e_s2_7, e_s2_8, e_s2_9, e_s2_10, e_dln, e_dli, e_dlr, e_dll, e_b, e_bd, e_lb, e_lbd, e_lcmp, e_i2l, e_l2i, e_i2b, e_dupi, e_dupr, e_dup2, e_getf, e_at0, e_ats, e_putI, e_putL, e_putR, e_gets, e_alen, e_iald, e_iast, e_bast, e_aast, e_if1, e_if2, e_goto, e_sw, e_iret, e_zret, e_lret, e_vret, e_obji, List.set_cons_zero, List.set_cons_succ, List.set_nil, Option.toList, List.nil_append, List.cons_append, List.length_cons, List.length_nil, true_or, or_true, true_and, and_true, nd_fold, Nat.one_mul, ↓m_1, ↓m_2, ↓m_3, ↓m_4, ↓m_9, ↓m_1000, nm_ne, nm_ne', nm_inj, nm_lt, nm_le, nm_gt, nm_ge, nm_xor, nm_add, Nat.add_sub_cancel, not_true_eq_false, not_false_eq_true, na_inj, na_le, na_lt, na_add, na_mul, na_and, na_or, na_xor, na_shl, na_shr, na_sub, i_0, i_1, i_2, i_3, i_4, i_5, i_6, i_7, i_8, i_9, i_10, i_12, i_16, i_20, i_21, i_32, i_40, i_60]
          refine kk_C_isInByPlan_90 _ _ _ _ _ ?_
          simp (disch := omega) only [bk_C_isInByPlan_90, e_cons, e_il, e_ll, e_al, e_lc0, e_lcs, e_ei, e_el, e_er, e_const, e_istore, e_lstore, e_astore, e_iinc, e_s1_0, e_s1_1, e_s1_2, e_s1_3, e_s1_4, e_s1_5, e_s1_6, e_s1_7, e_s1_8, e_s1_9, e_s1_10, e_s2_0, e_s2_1, e_s2_2, e_s2_3, e_s2_4, e_s2_5, e_s2_6, e_s2_7, e_s2_8, e_s2_9, e_s2_10, e_dln, e_dli, e_dlr, e_dll, e_b, e_bd, e_lb, e_lbd, e_lcmp, e_i2l, e_l2i, e_i2b, e_dupi, e_dupr, e_dup2, e_getf, e_at0, e_ats, e_putI, e_putL, e_putR, e_gets, e_alen, e_iald, e_iast, e_bast, e_aast, e_if1, e_if2, e_goto, e_sw, e_iret, e_zret, e_lret, e_vret, e_obji, List.set_cons_zero, List.set_cons_succ, List.set_nil, Option.toList, List.nil_append, List.cons_append, List.length_cons, List.length_nil, true_or, or_true, true_and, and_true, nd_fold, Nat.one_mul, ↓m_1, ↓m_2, ↓m_3, ↓m_4, ↓m_9, ↓m_1000, nm_ne, nm_ne', nm_inj, nm_lt, nm_le, nm_gt, nm_ge, nm_xor, nm_add, Nat.add_sub_cancel, not_true_eq_false, not_false_eq_true, na_inj, na_le, na_lt, na_add, na_mul, na_and, na_or, na_xor, na_shl, na_shr, na_sub, i_0, i_1, i_2, i_3, i_4, i_5, i_6, i_7, i_8, i_9, i_10, i_12, i_16, i_20, i_21, i_32, i_40, i_60]
          exact nxt
        · unfold rgs at nxt
          rw [lc_one hmo] at nxt
          rw [decide_eq_false hmo]
          simp (disch := omega) only [e_cons, e_il, e_ll, e_al, e_lc0, e_lcs, e_ei, e_el, e_er, e_const, e_istore, e_lstore, e_astore, e_iinc, e_s1_0, e_s1_1, e_s1_2, e_s1_3, e_s1_4, e_s1_5, e_s1_6, e_s1_7, e_s1_8, e_s1_9, e_s1_10, e_s2_0, e_s2_1, e_s2_2, e_s2_3, e_s2_4, e_s2_5, e_s2_6, e_s2_7, e_s2_8, e_s2_9, e_s2_10, e_dln, e_dli, e_dlr, e_dll, e_b, e_bd, e_lb, e_lbd, e_lcmp, e_i2l, e_l2i, e_i2b, e_dupi, e_dupr, e_dup2, e_getf, e_at0, e_ats, e_putI, e_putL, e_putR, e_gets, e_alen, e_iald, e_iast, e_bast, e_aast, e_if1, e_if2, e_goto, e_sw, e_iret, e_zret, e_lret, e_vret, e_obji, List.set_cons_zero, List.set_cons_succ, List.set_nil, Option.toList, List.nil_append, List.cons_append, List.length_cons, List.length_nil, true_or, or_true, true_and, and_true, nd_fold, Nat.one_mul, ↓m_1, ↓m_2, ↓m_3, ↓m_4, ↓m_9, ↓m_1000, nm_ne, nm_ne', nm_inj, nm_lt, nm_le, nm_gt, nm_ge, nm_xor, nm_add, Nat.add_sub_cancel, not_true_eq_false, not_false_eq_true, na_inj, na_le, na_lt, na_add, na_mul, na_and, na_or, na_xor, na_shl, na_shr, na_sub, i_0, i_1, i_2, i_3, i_4, i_5, i_6, i_7, i_8, i_9, i_10, i_12, i_16, i_20, i_21, i_32, i_40, i_60]
          refine ⟨fun _ => ?_, fun g => (by first | exact g.elim | exact absurd rfl g | exact absurd trivial g | exact absurd (Nat.le_refl _) g | (exfalso; omega) | exact absurd g (by decide) | exact absurd (show ¬ nI 1 = nI 0 by decide) g | exact absurd (by decide) g)⟩
          refine kk_C_isInByPlan_90 _ _ _ _ _ ?_
          simp (disch := omega) only [bk_C_isInByPlan_90, e_cons, e_il, e_ll, e_al, e_lc0, e_lcs, e_ei, e_el, e_er, e_const, e_istore, e_lstore, e_astore, e_iinc, e_s1_0, e_s1_1, e_s1_2, e_s1_3, e_s1_4, e_s1_5, e_s1_6, e_s1_7, e_s1_8, e_s1_9, e_s1_10, e_s2_0, e_s2_1, e_s2_2, e_s2_3, e_s2_4, e_s2_5, e_s2_6, e_s2_7, e_s2_8, e_s2_9, e_s2_10, e_dln, e_dli, e_dlr, e_dll, e_b, e_bd, e_lb, e_lbd, e_lcmp, e_i2l, e_l2i, e_i2b, e_dupi, e_dupr, e_dup2, e_getf, e_at0, e_ats, e_putI, e_putL, e_putR, e_gets, e_alen, e_iald, e_iast, e_bast, e_aast, e_if1, e_if2, e_goto, e_sw, e_iret, e_zret, e_lret, e_vret, e_obji, List.set_cons_zero, List.set_cons_succ, List.set_nil, Option.toList, List.nil_append, List.cons_append, List.length_cons, List.length_nil, true_or, or_true, true_and, and_true, nd_fold, Nat.one_mul, ↓m_1, ↓m_2, ↓m_3, ↓m_4, ↓m_9, ↓m_1000, nm_ne, nm_ne', nm_inj, nm_lt, nm_le, nm_gt, nm_ge, nm_xor, nm_add, Nat.add_sub_cancel, not_true_eq_false, not_false_eq_true, na_inj, na_le, na_lt, na_add, na_mul, na_and, na_or, na_xor, na_shl, na_shr, na_sub, i_0, i_1, i_2, i_3, i_4, i_5, i_6, i_7, i_8, i_9, i_10, i_12, i_16, i_20, i_21, i_32, i_40, i_60]
          exact nxt
  refine kk_C_isInByPlan_0 _ _ _ _ _ ?_
  simp (disch := omega) only [bk_C_isInByPlan_0, e_cons, e_il, e_ll, e_al, e_lc0, e_lcs, e_ei, e_el, e_er, e_const, e_istore, e_lstore, e_astore, e_iinc, e_s1_0, e_s1_1, e_s1_2, e_s1_3, e_s1_4, e_s1_5, e_s1_6, e_s1_7, e_s1_8, e_s1_9, e_s1_10, e_s2_0, e_s2_1, e_s2_2, e_s2_3, e_s2_4, e_s2_5, e_s2_6, e_s2_7, e_s2_8, e_s2_9, e_s2_10, e_dln, e_dli, e_dlr, e_dll, e_b, e_bd, e_lb, e_lbd, e_lcmp, e_i2l, e_l2i, e_i2b, e_dupi, e_dupr, e_dup2, e_getf, e_at0, e_ats, e_putI, e_putL, e_putR, e_gets, e_alen, e_iald, e_iast, e_bast, e_aast, e_if1, e_if2, e_goto, e_sw, e_iret, e_zret, e_lret, e_vret, e_obji, List.set_cons_zero, List.set_cons_succ, List.set_nil, Option.toList, List.nil_append, List.cons_append, List.length_cons, List.length_nil, true_or, or_true, true_and, and_true, nd_fold, Nat.one_mul, ↓m_1, ↓m_2, ↓m_3, ↓m_4, ↓m_9, ↓m_1000, nm_ne, nm_ne', nm_inj, nm_lt, nm_le, nm_gt, nm_ge, nm_xor, nm_add, Nat.add_sub_cancel, not_true_eq_false, not_false_eq_true, na_inj, na_le, na_lt, na_add, na_mul, na_and, na_or, na_xor, na_shl, na_shr, na_sub, i_0, i_1, i_2, i_3, i_4, i_5, i_6, i_7, i_8, i_9, i_10, i_12, i_16, i_20, i_21, i_32, i_40, i_60, oq_2]
  refine k_callV gl_36 (c_as_become h hR) rfl rfl rfl ?_
  simp (disch := omega) only [e_cons, e_il, e_ll, e_al, e_lc0, e_lcs, e_ei, e_el, e_er, e_const, e_istore, e_lstore, e_astore, e_iinc, e_s1_0, e_s1_1, e_s1_2, e_s1_3, e_s1_4, e_s1_5, e_s1_6, e_s1_7, e_s1_8, e_s1_9, e_s1_10, e_s2_0, e_s2_1, e_s2_2, e_s2_3, e_s2_4, e_s2_5, e_s2_6, e_s2_7, e_s2_8, e_s2_9, e_s2_10, e_dln, e_dli, e_dlr, e_dll, e_b, e_bd, e_lb, e_lbd, e_lcmp, e_i2l, e_l2i, e_i2b, e_dupi, e_dupr, e_dup2, e_getf, e_at0, e_ats, e_putI, e_putL, e_putR, e_gets, e_alen, e_iald, e_iast, e_bast, e_aast, e_if1, e_if2, e_goto, e_sw, e_iret, e_zret, e_lret, e_vret, e_obji, List.set_cons_zero, List.set_cons_succ, List.set_nil, Option.toList, List.nil_append, List.cons_append, List.length_cons, List.length_nil, true_or, or_true, true_and, and_true, nd_fold, Nat.one_mul, ↓m_1, ↓m_2, ↓m_3, ↓m_4, ↓m_9, ↓m_1000, nm_ne, nm_ne', nm_inj, nm_lt, nm_le, nm_gt, nm_ge, nm_xor, nm_add, Nat.add_sub_cancel, not_true_eq_false, not_false_eq_true, na_inj, na_le, na_lt, na_add, na_mul, na_and, na_or, na_xor, na_shl, na_shr, na_sub, i_0, i_1, i_2, i_3, i_4, i_5, i_6, i_7, i_8, i_9, i_10, i_12, i_16, i_20, i_21, i_32, i_40, i_60]
  exact loop n 0 (rst s R) (by omega) (rst_ok h) hF
