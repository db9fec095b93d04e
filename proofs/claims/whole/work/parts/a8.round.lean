/-! a round aside: BARS, a STOP, the CHAIR of the least PLACE taken away -/
def ms_lc (c : Nat) : Nat := match ms_fs c 0 0 8 with
  | some q => if 1 < ms_pop c then nd c (2 ^ q) else c
  | none => c
theorem lc_eq : ∀ c, c < 256 → (if c &&& (c - 1) = 0 then c else c &&& (c - 1)) = ms_lc c := by decide +kernel
theorem lc_some : ∀ c, c < 256 → 1 < ms_pop c → (ms_fs c 0 0 8).isSome = true := by decide +kernel
theorem ms_lc_lt : ∀ c, c < 256 → ms_lc c < 256 := by decide +kernel
theorem lc_one {c : Nat} (h : ¬ 1 < ms_pop c) : ms_lc c = c := by
  unfold ms_lc
  split
  · rw [if_neg h]
  · rfl
theorem lc_more {c : Nat} (hc : c < 256) (h : 1 < ms_pop c) : ∃ q, q < 8 ∧ ms_fs c 0 0 8 = some q ∧ ms_lc c = nd c (2 ^ q) := by
  have := lc_some c hc h
  cases e : ms_fs c 0 0 8 with
  | none => rw [e] at this; cases this
  | some q => exact ⟨q, (ms_fs_lt e).1, rfl, by unfold ms_lc; rw [e]; dsimp only; rw [if_pos h]⟩
theorem tl_and : ∀ c, c < 256 → nI c &&& (nI c - nI 1) = nI (c &&& (c - 1)) := by decide +kernel
abbrev cM : Type := List Nat × List Nat × List Nat × List Nat × List Int32 × List Int32 × List Int32 × List Int32
abbrev rht (mn : cM) (n : Nat) (w : cR) : List Nat × Nat × Nat := ms_ht mn.1 mn.2.1 w.2.2.1 mn.2.2.2.1 (ms_play mn.1 mn.2.1 w.1 w.2.1 w.2.2.1 n, w.2.1, 0)
def rgs (mn : cM) (n : Nat) (w : cR) : cR := ((rht mn n w).1, (rht mn n w).2.1, ms_lc w.2.2.1, (rht mn n w).2.2, w.2.2.2.2.1 + n, w.2.2.2.2.2.1 + 1, w.2.2.2.2.2.2)
/-- what a ring aside keeps to -/
def rok (mc : Nat) (w : cR) : Prop := rwf mc w.1 w.2.1 w.2.2.1 ∧ (∀ e, w.2.1.testBit e = true → e < mc) ∧ w.1.length + w.2.2.2.2.2.2.length = 6
theorem rgs_ok {mn : cM} {mc n : Nat} {w : cR} (h : rok mc w) : rok mc (rgs mn n w) := by
  obtain ⟨h1, h2, h3⟩ := h
  have g := ms_ht_wf (ks := mn.1) (pcs := mn.2.1) mn.2.2.2.1 (ms_play mn.1 mn.2.1 w.1 w.2.1 w.2.2.1 n, w.2.1, 0) (ms_play_rwf h1) (show 0 < 256 by omega)
  refine ⟨⟨g.1.1, g.1.2.1, g.1.2.2.1, ms_lc_lt _ h1.2.2.2⟩, fun e he => h2 e (ms_ht_in (s := (ms_play mn.1 mn.2.1 w.1 w.2.1 w.2.2.1 n, w.2.1, 0)) he), ?_⟩
  have e1 : (rht mn n w).1.length = mc := g.1.1
  have e2 := h1.1
  show (rht mn n w).1.length + w.2.2.2.2.2.2.length = 6
  omega
theorem rgs_in {mn : cM} {n i : Nat} {w : cR} (h : w.2.1.testBit i = false) : (rgs mn n w).2.1.testBit i = false := by
  cases e : (rgs mn n w).2.1.testBit i
  · rfl
  · have := ms_ht_in (s := (ms_play mn.1 mn.2.1 w.1 w.2.1 w.2.2.1 n, w.2.1, 0)) (show (rht mn n w).2.1.testBit i = true from e)
    rw [show (ms_play mn.1 mn.2.1 w.1 w.2.1 w.2.2.1 n, w.2.1, 0).2.1 = w.2.1 from rfl, h] at this
    cases this
section AD
variable {s : cS} {m : mS} {xs : List Value} {τ : ax_H} {R : cR} {n q : Nat}
theorem c_as_become (h : Rel s m) (hR : R.1.length + R.2.2.2.2.2.2.length = 6) : ax_ev mi_G_become [.ref 36, .ref 34] (lay xs s.rw s.tx s.rm s.rr s.nx s.mn s.ru s.nw R s.dd s.k0 s.k1 s.k2 s.fc s.lf s.td s.tu s.tl τ) none (lay xs s.rw s.tx s.rm s.rr s.nx s.mn s.ru s.nw (s.nw.1, s.nw.2.1, s.nw.2.2.1, R.2.2.2.1, s.nw.2.2.2.2.1, s.nw.2.2.2.2.2.1, s.nw.2.2.2.2.2.2) s.dd s.k0 s.k1 s.k2 s.fc s.lf s.td s.tu s.tl τ) := by
  obtain ⟨vp, vi, vc, vt, vb, vs, vr⟩ := R
  exact c_G_become (H := (lay xs s.rw s.tx s.rm s.rr s.nx s.mn s.ru s.nw (vp, vi, vc, vt, vb, vs, vr) s.dd s.k0 s.k1 s.k2 s.fc s.lf s.td s.tu s.tl τ)) (a := 36) (p := 37) (a2 := 34) (p2 := 35) (ps := vp) (ps2 := s.nw.1) (r := vr) (r2 := s.nw.2.2.2.2.2.2) (i := vi) (c := vc) (t := vt) (b := vb) (s := vs) (i2 := s.nw.2.1) (c2 := s.nw.2.2.1) (t2 := s.nw.2.2.2.1) (b2 := s.nw.2.2.2.2.1) (s2 := s.nw.2.2.2.2.2.1) (by rw [lay_len]; omega) (by rw [lay_len]; omega) (by omega) rfl rfl (by omega) (by omega) (by omega) (by omega) hR (rel_l1 h)
theorem c_as_play (h : Rel s m) (hR : rok m.mc R) (hn : n < 1000) : ax_ev mi_G_play [.ref 36, .ref 27, .int (nI n)] (lay xs s.rw s.tx s.rm s.rr s.nx s.mn s.ru s.nw R s.dd s.k0 s.k1 s.k2 s.fc s.lf s.td s.tu s.tl τ) none (lay xs s.rw s.tx s.rm s.rr s.nx s.mn s.ru s.nw (ms_play s.mn.1 s.mn.2.1 R.1 R.2.1 R.2.2.1 n, R.2.1, R.2.2.1, R.2.2.2.1, R.2.2.2.2.1 + n, R.2.2.2.2.2.1, R.2.2.2.2.2.2) s.dd s.k0 s.k1 s.k2 s.fc s.lf s.td s.tu s.tl τ) := by
  obtain ⟨vp, vi, vc, vt, vb, vs, vr⟩ := R
  have hr : rwf s.mn.1.length vp vi vc := by rw [rel_mc h]; exact hR.1
  exact c_G_play (H := (lay xs s.rw s.tx s.rm s.rr s.nx s.mn s.ru s.nw (vp, vi, vc, vt, vb, vs, vr) s.dd s.k0 s.k1 s.k2 s.fc s.lf s.td s.tu s.tl τ)) (a := 36) (p := 37) (n := s.mn.1.length) (m := n) (ks := s.mn.1) (pcs := s.mn.2.1) (cu := s.mn.2.2.1) (od := s.mn.2.2.2.1) (r := vr) (rk := s.mn.2.2.2.2.1) (rp := s.mn.2.2.2.2.2.1) (rc := s.mn.2.2.2.2.2.2.1) (ro := s.mn.2.2.2.2.2.2.2) (ps := vp) (i := vi) (c := vc) (t := vt) (b := vb) (s := vs) (by rw [lay_len]; omega) (by rw [lay_len]; omega) (by omega) (by omega) (by omega) ⟨rfl, rfl, rfl, rfl, rfl⟩ (rel_W h) hr hn
theorem c_as_halt (h : Rel s m) (hR : rwf m.mc R.1 R.2.1 R.2.2.1) : ax_ev mi_G_halt [.ref 36, .ref 27] (lay xs s.rw s.tx s.rm s.rr s.nx s.mn s.ru s.nw R s.dd s.k0 s.k1 s.k2 s.fc s.lf s.td s.tu s.tl τ) none (lay xs s.rw s.tx s.rm s.rr s.nx s.mn s.ru s.nw ((ms_ht s.mn.1 s.mn.2.1 R.2.2.1 s.mn.2.2.2.1 (R.1, R.2.1, 0)).1, (ms_ht s.mn.1 s.mn.2.1 R.2.2.1 s.mn.2.2.2.1 (R.1, R.2.1, 0)).2.1, R.2.2.1, (ms_ht s.mn.1 s.mn.2.1 R.2.2.1 s.mn.2.2.2.1 (R.1, R.2.1, 0)).2.2, R.2.2.2.2.1, R.2.2.2.2.2.1 + 1, R.2.2.2.2.2.2) s.dd s.k0 s.k1 s.k2 s.fc s.lf s.td s.tu s.tl τ) := by
  obtain ⟨vp, vi, vc, vt, vb, vs, vr⟩ := R
  have hr : rwf s.mn.1.length vp vi vc := by rw [rel_mc h]; exact hR
  exact c_G_halt (H := (lay xs s.rw s.tx s.rm s.rr s.nx s.mn s.ru s.nw (vp, vi, vc, vt, vb, vs, vr) s.dd s.k0 s.k1 s.k2 s.fc s.lf s.td s.tu s.tl τ)) (a := 36) (p := 37) (n := s.mn.1.length) (ks := s.mn.1) (pcs := s.mn.2.1) (cu := s.mn.2.2.1) (od := s.mn.2.2.2.1) (r := vr) (rk := s.mn.2.2.2.2.1) (rp := s.mn.2.2.2.2.2.1) (rc := s.mn.2.2.2.2.2.2.1) (ro := s.mn.2.2.2.2.2.2.2) (ps := vp) (i := vi) (c := vc) (t := vt) (b := vb) (s := vs) (by rw [lay_len]; omega) (by rw [lay_len]; omega) (by omega) (by omega) (by omega) ⟨rfl, rfl, rfl, rfl, rfl⟩ (rel_W h) hr
theorem c_as_more (hc : R.2.2.1 < 256) : ax_ev mi_G_hasMoreChairs [.ref 36] (lay xs s.rw s.tx s.rm s.rr s.nx s.mn s.ru s.nw R s.dd s.k0 s.k1 s.k2 s.fc s.lf s.td s.tu s.tl τ) (some (.int (nI (bz (decide (1 < ms_pop R.2.2.1)))))) (lay xs s.rw s.tx s.rm s.rr s.nx s.mn s.ru s.nw R s.dd s.k0 s.k1 s.k2 s.fc s.lf s.td s.tu s.tl τ) := by
  obtain ⟨vp, vi, vc, vt, vb, vs, vr⟩ := R
  exact c_G_more (H := (lay xs s.rw s.tx s.rm s.rr s.nx s.mn s.ru s.nw (vp, vi, vc, vt, vb, vs, vr) s.dd s.k0 s.k1 s.k2 s.fc s.lf s.td s.tu s.tl τ)) (a := 36) (p := 37) (ps := vp) (r := vr) (i := vi) (c := vc) (t := vt) (b := vb) (s := vs) (by rw [lay_len]; omega) hc
theorem c_as_least (hc : R.2.2.1 < 256) (hq : ms_fs R.2.2.1 0 0 8 = some q) : ax_ev mi_G_leastChair [.ref 36] (lay xs s.rw s.tx s.rm s.rr s.nx s.mn s.ru s.nw R s.dd s.k0 s.k1 s.k2 s.fc s.lf s.td s.tu s.tl τ) (some (.int (nI q))) (lay xs s.rw s.tx s.rm s.rr s.nx s.mn s.ru s.nw R s.dd s.k0 s.k1 s.k2 s.fc s.lf s.td s.tu s.tl τ) := by
  obtain ⟨vp, vi, vc, vt, vb, vs, vr⟩ := R
  have g := c_G_least (H := (lay xs s.rw s.tx s.rm s.rr s.nx s.mn s.ru s.nw (vp, vi, vc, vt, vb, vs, vr) s.dd s.k0 s.k1 s.k2 s.fc s.lf s.td s.tu s.tl τ)) (a := 36) (p := 37) (ps := vp) (r := vr) (i := vi) (c := vc) (t := vt) (b := vb) (s := vs) (by rw [lay_len]; omega) hc
  rw [show ms_fs vc 0 0 8 = some q from hq] at g
  exact g
theorem c_as_take (h : Rel s m) (hR : rwf m.mc R.1 R.2.1 R.2.2.1) (hq : q < 8) : ax_ev mi_G_undergo [.ref 36, .ref 27, .int (nI (2 + q))] (lay xs s.rw s.tx s.rm s.rr s.nx s.mn s.ru s.nw R s.dd s.k0 s.k1 s.k2 s.fc s.lf s.td s.tu s.tl τ) none (lay xs s.rw s.tx s.rm s.rr s.nx s.mn s.ru s.nw (R.1, R.2.1, nd R.2.2.1 (2 ^ q), R.2.2.2.1, R.2.2.2.2.1, R.2.2.2.2.2.1, R.2.2.2.2.2.2) s.dd s.k0 s.k1 s.k2 s.fc s.lf s.td s.tu s.tl τ) := by
  obtain ⟨vp, vi, vc, vt, vb, vs, vr⟩ := R
  have hr : rwf s.mn.1.length vp vi vc := by rw [rel_mc h]; exact hR
  have g := c_G_undergo (H := (lay xs s.rw s.tx s.rm s.rr s.nx s.mn s.ru s.nw (vp, vi, vc, vt, vb, vs, vr) s.dd s.k0 s.k1 s.k2 s.fc s.lf s.td s.tu s.tl τ)) (a := 36) (p := 37) (n := s.mn.1.length) (d := 2 + q) (ks := s.mn.1) (pcs := s.mn.2.1) (cu := s.mn.2.2.1) (od := s.mn.2.2.2.1) (r := vr) (rk := s.mn.2.2.2.2.1) (rp := s.mn.2.2.2.2.2.1) (rc := s.mn.2.2.2.2.2.2.1) (ro := s.mn.2.2.2.2.2.2.2) (g := (vp, vi, vc, vt, vb, vs)) (by rw [lay_len]; omega) (by rw [lay_len]; omega) (by omega) (by omega) (by omega) ⟨rfl, rfl, rfl, rfl, rfl⟩ (rel_W h) hr (Or.inl (by omega))
  have hug : ms_ug s.mn.1 s.mn.2.1 s.mn.2.2.2.1 (2 + q) (vp, vi, vc, vt, vb, vs) = (vp, vi, nd vc (2 ^ q), vt, vb, vs) := by
    unfold ms_ug
    dsimp only
    rw [if_neg (by omega), if_neg (by omega), if_pos (by omega), Nat.add_sub_cancel_left]
  rw [hug] at g
  exact g
end AD
/-! the reference: a round -/
section RT
variable {P : ax_P} {RS : List Int32} {RW : List Int32} {TS : List Int32} {TX : List Int32} {mc : Nat} {K : List Nat} {PC : List Nat} {CU : List Nat} {NW : List Nat} {AS : List Nat} {dp : Nat} {BF : List Nat} {KP : List Nat} {KT : List Nat} {ak : Int32} {up : Int64} {lw : Int64} {fi : Int32} {FS : List Int32} {he : Nat} {rch : Nat} {rmn : Nat} {RM : List Nat} {RO : List Nat} {BE : List Nat} {WO : List Nat}
theorem c_R_least_NW {ps zs : List Nat} {i c b s : Nat} (hc : c < 256) (hz : ps.length + zs.length = 6) : ax_ev mi_R_takesLeast [.ref 56] (mdl P RS RW TS TX mc K PC CU (mT ps zs i c b s) AS dp BF KP KT ak up lw fi FS he rch rmn RM RO BE WO) none (mdl P RS RW TS TX mc K PC CU (mT ps zs i (ms_lc c) b s) AS dp BF KP KT ak up lw fi FS he rch rmn RM RO BE WO) := by
  refine ax_beg 1 rfl rfl ?_
  simp only [ax_ent, List.replicate, List.cons_append, List.nil_append, List.append_nil]
  have t := tl_and c hc
  have e := lc_eq c hc
  have hle : c &&& (c - 1) ≤ c := Nat.and_le_left
  refine kk_R_takesLeast_0 _ _ _ _ _ ?_
  simp (disch := omega) only [bk_R_takesLeast_0, e_cons, e_il, e_ll, e_al, e_lc0, e_lcs, e_ei, e_el, e_er, e_const, e_istore, e_lstore, e_astore, e_iinc, e_s1_0, e_s1_1, e_s1_2, e_s1_3, e_s1_4, e_s1_5, e_s1_6, e_s1_7, e_s1_8, e_s1_9, e_s1_10, e_s2_0, e_s2_1, e_s2_2, e_s2_3, e_s2_4, e_s2_5, e_s2_6, e_s2_7, e_s2_8, e_s2_9, e_s2_10, e_dln, e_dli, e_dlr, e_dll, e_b, e_bd, e_lb, e_lbd, e_lcmp, e_i2l, e_l2i, e_i2b, e_dupi, e_dupr, e_dup2, e_getf, e_at0, e_ats, e_putI, e_putL, e_putR, e_gets, e_alen, e_iald, e_iast, e_bast, e_aast, e_if1, e_if2, e_goto, e_sw, e_iret, e_zret, e_lret, e_vret, e_obji, List.set_cons_zero, List.set_cons_succ, List.set_nil, Option.toList, List.nil_append, List.cons_append, List.length_cons, List.length_nil, true_or, or_true, true_and, and_true, nd_fold, Nat.one_mul, ↓m_1, ↓m_2, ↓m_3, ↓m_4, ↓m_9, ↓m_1000, nm_ne, nm_ne', nm_inj, nm_lt, nm_le, nm_gt, nm_ge, nm_xor, nm_add, Nat.add_sub_cancel, not_true_eq_false, not_false_eq_true, na_inj, na_le, na_lt, na_add, na_mul, na_and, na_or, na_xor, na_shl, na_shr, na_sub, i_0, i_1, i_2, i_3, i_4, i_5, i_6, i_7, i_8, i_9, i_10, i_12, i_16, i_20, i_21, i_32, i_40, i_60, om_56, mt_rd7, t]
  refine ⟨fun g => ?_, fun g => ?_⟩
  · rw [if_neg g] at e
    refine kk_R_takesLeast_26 _ _ _ _ _ ?_
    simp (disch := omega) only [bk_R_takesLeast_26, e_cons, e_il, e_ll, e_al, e_lc0, e_lcs, e_ei, e_el, e_er, e_const, e_istore, e_lstore, e_astore, e_iinc, e_s1_0, e_s1_1, e_s1_2, e_s1_3, e_s1_4, e_s1_5, e_s1_6, e_s1_7, e_s1_8, e_s1_9, e_s1_10, e_s2_0, e_s2_1, e_s2_2, e_s2_3, e_s2_4, e_s2_5, e_s2_6, e_s2_7, e_s2_8, e_s2_9, e_s2_10, e_dln, e_dli, e_dlr, e_dll, e_b, e_bd, e_lb, e_lbd, e_lcmp, e_i2l, e_l2i, e_i2b, e_dupi, e_dupr, e_dup2, e_getf, e_at0, e_ats, e_putI, e_putL, e_putR, e_gets, e_alen, e_iald, e_iast, e_bast, e_aast, e_if1, e_if2, e_goto, e_sw, e_iret, e_zret, e_lret, e_vret, e_obji, List.set_cons_zero, List.set_cons_succ, List.set_nil, Option.toList, List.nil_append, List.cons_append, List.length_cons, List.length_nil, true_or, or_true, true_and, and_true, nd_fold, Nat.one_mul, ↓m_1, ↓m_2, ↓m_3, ↓m_4, ↓m_9, ↓m_1000, nm_ne, nm_ne', nm_inj, nm_lt, nm_le, nm_gt, nm_ge, nm_xor, nm_add, Nat.add_sub_cancel, not_true_eq_false, not_false_eq_true, na_inj, na_le, na_lt, na_add, na_mul, na_and, na_or, na_xor, na_shl, na_shr, na_sub, i_0, i_1, i_2, i_3, i_4, i_5, i_6, i_7, i_8, i_9, i_10, i_12, i_16, i_20, i_21, i_32, i_40, i_60]
    refine kk_R_takesLeast_27 _ _ _ _ _ ?_
    simp (disch := omega) only [bk_R_takesLeast_27, e_cons, e_il, e_ll, e_al, e_lc0, e_lcs, e_ei, e_el, e_er, e_const, e_istore, e_lstore, e_astore, e_iinc, e_s1_0, e_s1_1, e_s1_2, e_s1_3, e_s1_4, e_s1_5, e_s1_6, e_s1_7, e_s1_8, e_s1_9, e_s1_10, e_s2_0, e_s2_1, e_s2_2, e_s2_3, e_s2_4, e_s2_5, e_s2_6, e_s2_7, e_s2_8, e_s2_9, e_s2_10, e_dln, e_dli, e_dlr, e_dll, e_b, e_bd, e_lb, e_lbd, e_lcmp, e_i2l, e_l2i, e_i2b, e_dupi, e_dupr, e_dup2, e_getf, e_at0, e_ats, e_putI, e_putL, e_putR, e_gets, e_alen, e_iald, e_iast, e_bast, e_aast, e_if1, e_if2, e_goto, e_sw, e_iret, e_zret, e_lret, e_vret, e_obji, List.set_cons_zero, List.set_cons_succ, List.set_nil, Option.toList, List.nil_append, List.cons_append, List.length_cons, List.length_nil, true_or, or_true, true_and, and_true, nd_fold, Nat.one_mul, ↓m_1, ↓m_2, ↓m_3, ↓m_4, ↓m_9, ↓m_1000, nm_ne, nm_ne', nm_inj, nm_lt, nm_le, nm_gt, nm_ge, nm_xor, nm_add, Nat.add_sub_cancel, not_true_eq_false, not_false_eq_true, na_inj, na_le, na_lt, na_add, na_mul, na_and, na_or, na_xor, na_shl, na_shr, na_sub, i_0, i_1, i_2, i_3, i_4, i_5, i_6, i_7, i_8, i_9, i_10, i_12, i_16, i_20, i_21, i_32, i_40, i_60, om_56, mt_wr, mt_set7, sm_56]
    rw [e]
    all_goals first | exact ⟨rfl, rfl⟩ | exact rfl | exact trivial
  · rw [if_pos (Classical.not_not.mp g)] at e
    refine kk_R_takesLeast_27 _ _ _ _ _ ?_
    simp (disch := omega) only [bk_R_takesLeast_27, e_cons, e_il, e_ll, e_al, e_lc0, e_lcs, e_ei, e_el, e_er, e_const, e_istore, e_lstore, e_astore, e_iinc, e_s1_0, e_s1_1, e_s1_2, e_s1_3, e_s1_4, e_s1_5, e_s1_6, e_s1_7, e_s1_8, e_s1_9, e_s1_10, e_s2_0, e_s2_1, e_s2_2, e_s2_3, e_s2_4, e_s2_5, e_s2_6, e_s2_7, e_s2_8, e_s2_9, e_s2_10, e_dln, e_dli, e_dlr, e_dll, e_b, e_bd, e_lb, e_lbd, e_lcmp, e_i2l, e_l2i, e_i2b, e_dupi, e_dupr, e_dup2, e_getf, e_at0, e_ats, e_putI, e_putL, e_putR, e_gets, e_alen, e_iald, e_iast, e_bast, e_aast, e_if1, e_if2, e_goto, e_sw, e_iret, e_zret, e_lret, e_vret, e_obji, List.set_cons_zero, List.set_cons_succ, List.set_nil, Option.toList, List.nil_append, List.cons_append, List.length_cons, List.length_nil, true_or, or_true, true_and, and_true, nd_fold, Nat.one_mul, ↓m_1, ↓m_2, ↓m_3, ↓m_4, ↓m_9, ↓m_1000, nm_ne, nm_ne', nm_inj, nm_lt, nm_le, nm_gt, nm_ge, nm_xor, nm_add, Nat.add_sub_cancel, not_true_eq_false, not_false_eq_true, na_inj, na_le, na_lt, na_add, na_mul, na_and, na_or, na_xor, na_shl, na_shr, na_sub, i_0, i_1, i_2, i_3, i_4, i_5, i_6, i_7, i_8, i_9, i_10, i_12, i_16, i_20, i_21, i_32, i_40, i_60, om_56, mt_rd7, mt_wr, mt_set7, sm_56]
    rw [← e]
    all_goals first | exact ⟨rfl, rfl⟩ | exact rfl | exact trivial
theorem c_R_least_AS {ps zs : List Nat} {i c b s : Nat} (hc : c < 256) (hz : ps.length + zs.length = 6) : ax_ev mi_R_takesLeast [.ref 57] (mdl P RS RW TS TX mc K PC CU NW (mT ps zs i c b s) dp BF KP KT ak up lw fi FS he rch rmn RM RO BE WO) none (mdl P RS RW TS TX mc K PC CU NW (mT ps zs i (ms_lc c) b s) dp BF KP KT ak up lw fi FS he rch rmn RM RO BE WO) := by
  refine ax_beg 1 rfl rfl ?_
  simp only [ax_ent, List.replicate, List.cons_append, List.nil_append, List.append_nil]
  have t := tl_and c hc
  have e := lc_eq c hc
  have hle : c &&& (c - 1) ≤ c := Nat.and_le_left
  refine kk_R_takesLeast_0 _ _ _ _ _ ?_
  simp (disch := omega) only [bk_R_takesLeast_0, e_cons, e_il, e_ll, e_al, e_lc0, e_lcs, e_ei, e_el, e_er, e_const, e_istore, e_lstore, e_astore, e_iinc, e_s1_0, e_s1_1, e_s1_2, e_s1_3, e_s1_4, e_s1_5, e_s1_6, e_s1_7, e_s1_8, e_s1_9, e_s1_10, e_s2_0, e_s2_1, e_s2_2, e_s2_3, e_s2_4, e_s2_5, e_s2_6, e_s2_7, e_s2_8, e_s2_9, e_s2_10, e_dln, e_dli, e_dlr, e_dll, e_b, e_bd, e_lb, e_lbd, e_lcmp, e_i2l, e_l2i, e_i2b, e_dupi, e_dupr, e_dup2, e_getf, e_at0, e_ats, e_putI, e_putL, e_putR, e_gets, e_alen, e_iald, e_iast, e_bast, e_aast, e_if1, e_if2, e_goto, e_sw, e_iret, e_zret, e_lret, e_vret, e_obji, List.set_cons_zero, List.set_cons_succ, List.set_nil, Option.toList, List.nil_append, List.cons_append, List.length_cons, List.length_nil, true_or, or_true, true_and, and_true, nd_fold, Nat.one_mul, ↓m_1, ↓m_2, ↓m_3, ↓m_4, ↓m_9, ↓m_1000, nm_ne, nm_ne', nm_inj, nm_lt, nm_le, nm_gt, nm_ge, nm_xor, nm_add, Nat.add_sub_cancel, not_true_eq_false, not_false_eq_true, na_inj, na_le, na_lt, na_add, na_mul, na_and, na_or, na_xor, na_shl, na_shr, na_sub, i_0, i_1, i_2, i_3, i_4, i_5, i_6, i_7, i_8, i_9, i_10, i_12, i_16, i_20, i_21, i_32, i_40, i_60, om_57, mt_rd7, t]
  refine ⟨fun g => ?_, fun g => ?_⟩
  · rw [if_neg g] at e
    refine kk_R_takesLeast_26 _ _ _ _ _ ?_
    simp (disch := omega) only [bk_R_takesLeast_26, e_cons, e_il, e_ll, e_al, e_lc0, e_lcs, e_ei, e_el, e_er, e_const, e_istore, e_lstore, e_astore, e_iinc, e_s1_0, e_s1_1, e_s1_2, e_s1_3, e_s1_4, e_s1_5, e_s1_6, e_s1_7, e_s1_8, e_s1_9, e_s1_10, e_s2_0, e_s2_1, e_s2_2, e_s2_3, e_s2_4, e_s2_5, e_s2_6, e_s2_7, e_s2_8, e_s2_9, e_s2_10, e_dln, e_dli, e_dlr, e_dll, e_b, e_bd, e_lb, e_lbd, e_lcmp, e_i2l, e_l2i, e_i2b, e_dupi, e_dupr, e_dup2, e_getf, e_at0, e_ats, e_putI, e_putL, e_putR, e_gets, e_alen, e_iald, e_iast, e_bast, e_aast, e_if1, e_if2, e_goto, e_sw, e_iret, e_zret, e_lret, e_vret, e_obji, List.set_cons_zero, List.set_cons_succ, List.set_nil, Option.toList, List.nil_append, List.cons_append, List.length_cons, List.length_nil, true_or, or_true, true_and, and_true, nd_fold, Nat.one_mul, ↓m_1, ↓m_2, ↓m_3, ↓m_4, ↓m_9, ↓m_1000, nm_ne, nm_ne', nm_inj, nm_lt, nm_le, nm_gt, nm_ge, nm_xor, nm_add, Nat.add_sub_cancel, not_true_eq_false, not_false_eq_true, na_inj, na_le, na_lt, na_add, na_mul, na_and, na_or, na_xor, na_shl, na_shr, na_sub, i_0, i_1, i_2, i_3, i_4, i_5, i_6, i_7, i_8, i_9, i_10, i_12, i_16, i_20, i_21, i_32, i_40, i_60]
    refine kk_R_takesLeast_27 _ _ _ _ _ ?_
    simp (disch := omega) only [bk_R_takesLeast_27, e_cons, e_il, e_ll, e_al, e_lc0, e_lcs, e_ei, e_el, e_er, e_const, e_istore, e_lstore, e_astore, e_iinc, e_s1_0, e_s1_1, e_s1_2, e_s1_3, e_s1_4, e_s1_5, e_s1_6, e_s1_7, e_s1_8, e_s1_9, e_s1_10, e_s2_0, e_s2_1, e_s2_2, e_s2_3, e_s2_4, e_s2_5, e_s2_6, e_s2_7, e_s2_8, e_s2_9, e_s2_10, e_dln, e_dli, e_dlr, e_dll, e_b, e_bd, e_lb, e_lbd, e_lcmp, e_i2l, e_l2i, e_i2b, e_dupi, e_dupr, e_dup2, e_getf, e_at0, e_ats, e_putI, e_putL, e_putR, e_gets, e_alen, e_iald, e_iast, e_bast, e_aast, e_if1, e_if2, e_goto, e_sw, e_iret, e_zret, e_lret, e_vret, e_obji, List.set_cons_zero, List.set_cons_succ, List.set_nil, Option.toList, List.nil_append, List.cons_append, List.length_cons, List.length_nil, true_or, or_true, true_and, and_true, nd_fold, Nat.one_mul, ↓m_1, ↓m_2, ↓m_3, ↓m_4, ↓m_9, ↓m_1000, nm_ne, nm_ne', nm_inj, nm_lt, nm_le, nm_gt, nm_ge, nm_xor, nm_add, Nat.add_sub_cancel, not_true_eq_false, not_false_eq_true, na_inj, na_le, na_lt, na_add, na_mul, na_and, na_or, na_xor, na_shl, na_shr, na_sub, i_0, i_1, i_2, i_3, i_4, i_5, i_6, i_7, i_8, i_9, i_10, i_12, i_16, i_20, i_21, i_32, i_40, i_60, om_57, mt_wr, mt_set7, sm_57]
    rw [e]
    all_goals first | exact ⟨rfl, rfl⟩ | exact rfl | exact trivial
  · rw [if_pos (Classical.not_not.mp g)] at e
    refine kk_R_takesLeast_27 _ _ _ _ _ ?_
    simp (disch := omega) only [bk_R_takesLeast_27, e_cons, e_il, e_ll, e_al, e_lc0, e_lcs, e_ei, e_el, e_er, e_const, e_istore, e_lstore, e_astore, e_iinc, e_s1_0, e_s1_1, e_s1_2, e_s1_3, e_s1_4, e_s1_5, e_s1_6, e_s1_7, e_s1_8, e_s1_9, e_s1_10, e_s2_0, e_s2_1, e_s2_2, e_s2_3, e_s2_4, e_s2_5, e_s2_6, e_s2_7, e_s2_8, e_s2_9, e_s2_10, e_dln, e_dli, e_dlr, e_dll, e_b, e_bd, e_lb, e_lbd, e_lcmp, e_i2l, e_l2i, e_i2b, e_dupi, e_dupr, e_dup2, e_getf, e_at0, e_ats, e_putI, e_putL, e_putR, e_gets, e_alen, e_iald, e_iast, e_bast, e_aast, e_if1, e_if2, e_goto, e_sw, e_iret, e_zret, e_lret, e_vret, e_obji, List.set_cons_zero, List.set_cons_succ, List.set_nil, Option.toList, List.nil_append, List.cons_append, List.length_cons, List.length_nil, true_or, or_true, true_and, and_true, nd_fold, Nat.one_mul, ↓m_1, ↓m_2, ↓m_3, ↓m_4, ↓m_9, ↓m_1000, nm_ne, nm_ne', nm_inj, nm_lt, nm_le, nm_gt, nm_ge, nm_xor, nm_add, Nat.add_sub_cancel, not_true_eq_false, not_false_eq_true, na_inj, na_le, na_lt, na_add, na_mul, na_and, na_or, na_xor, na_shl, na_shr, na_sub, i_0, i_1, i_2, i_3, i_4, i_5, i_6, i_7, i_8, i_9, i_10, i_12, i_16, i_20, i_21, i_32, i_40, i_60, om_57, mt_rd7, mt_wr, mt_set7, sm_57]
    rw [← e]
    all_goals first | exact ⟨rfl, rfl⟩ | exact rfl | exact trivial
end RT
/-- the reference's row of ten of a ring -/
def rmT (mc : Nat) (w : cR) : List Nat := mT w.1 (List.replicate (6 - mc) 0) w.2.1 w.2.2.1 w.2.2.2.2.1 w.2.2.2.2.2.1
theorem rmT_len {mc : Nat} {w : cR} (h : rok mc w) (hm : mc ≤ 6) : (rmT mc w).length = 10 := by
  unfold rmT
  rw [mT_len, h.1.1, List.length_replicate]
  omega
theorem c_R_rstop {s : cS} {m : mS} {P : ax_P} {w : cR} {n : Nat} {RO BE : List Nat} (h : Rel s m) (hw : rok m.mc w) (hn : n < 1000) : ax_ev mi_R_stopsIn [.ref 48, .int (nI n)] (mdl P m.RS m.RW m.TS m.TX m.mc m.K m.PC m.CU m.NW (rmT m.mc w) m.dp m.BF m.KP m.KT m.ak m.up m.lw m.fi m.FS m.he m.rch m.rmn m.RM RO BE m.WO) (some (.int (nI (rht s.mn n w).2.2))) (mdl P m.RS m.RW m.TS m.TX m.mc m.K m.PC m.CU m.NW (mT (rht s.mn n w).1 (List.replicate (6 - m.mc) 0) (rht s.mn n w).2.1 w.2.2.1 (w.2.2.2.2.1 + n) (w.2.2.2.2.2.1 + 1)) m.dp m.BF m.KP m.KT m.ak m.up m.lw m.fi m.FS m.he m.rch m.rmn m.RM RO BE m.WO) := by
  obtain ⟨hr, hi, hl⟩ := hw
  have hm6 : m.mc ≤ 6 := h.mis.1.1
  have e1 : ms_play m.K m.PC w.1 w.2.1 w.2.2.1 n = ms_play s.mn.1 s.mn.2.1 w.1 w.2.1 w.2.2.1 n := ms_play_eq (fun j hj => rel_K h j (by rw [← hr.1]; exact hj))
  have e2 : ms_ht m.K m.PC w.2.2.1 s.mn.2.2.2.1 (ms_play s.mn.1 s.mn.2.1 w.1 w.2.1 w.2.2.1 n, w.2.1, 0) = rht s.mn n w := ms_ht_eq (fun j hj => rel_K h j ((h.mis.2.2.2.2.1 j).mp hj))
  have g := c_R_stopsIn (P := P) (RS := m.RS) (RW := m.RW) (TS := m.TS) (TX := m.TX) (mc := m.mc) (K := m.K) (PC := m.PC) (CU := m.CU) (NW := m.NW) (dp := m.dp) (BF := m.BF) (KP := m.KP) (KT := m.KT) (ak := m.ak) (up := m.up) (lw := m.lw) (fi := m.fi) (FS := m.FS) (he := m.he) (rch := m.rch) (rmn := m.rmn) (RM := m.RM) (RO := RO) (BE := BE) (WO := m.WO) (b := w.2.2.2.2.1) (s := w.2.2.2.2.2.1) (n := n) (ps := w.1) (zs := List.replicate (6 - m.mc) 0) (i := w.2.1) (c := w.2.2.1) h.mis.2.1 hr (by rw [hr.1, List.length_replicate]; omega) h.mis.2.2.2.1 h.mis.2.2.2.2.1 hi hn
  rw [e1, e2] at g
  exact g
theorem rel_rok {s : cS} {m : mS} (h : Rel s m) : rok m.mc s.nw := ⟨rel_rw h, h.gnw.1.2.1, rel_l1 h⟩
