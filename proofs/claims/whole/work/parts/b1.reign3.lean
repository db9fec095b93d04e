/-! reign: the reference's rounds -/
def mro : Nat → Nat → List Nat → List Nat
  | 0, _, RO => RO
  | k + 1, x, RO => mro k (x / 6) (RO.set k (x % 6))
def msu : Nat → Nat → Nat
  | 0, _ => 0
  | k + 1, x => x % 6 + msu k (x / 6)
theorem mro_len : ∀ {n x : Nat} {RO : List Nat}, (mro n x RO).length = RO.length
  | 0, _, _ => rfl
  | n + 1, x, RO => by unfold mro; rw [mro_len, List.length_set]
theorem mro_ge : ∀ {n x k : Nat} {RO : List Nat}, n ≤ k → (mro n x RO).getD k 0 = RO.getD k 0
  | 0, _, _, _, _ => rfl
  | n + 1, x, k, RO, h => by
    unfold mro
    rw [mro_ge (by omega)]
    by_cases hl : n < RO.length
    · rw [gs hl, if_neg (by omega)]
    · rw [List.set_eq_of_length_le (by omega)]
theorem mro_at : ∀ {n x k : Nat} {RO : List Nat}, n ≤ RO.length → k < n → (mro n x RO).getD k 0 = dig x n k
  | 0, _, _, _, _, h => absurd h (by omega)
  | n + 1, x, k, RO, hl, h => by
    unfold mro
    by_cases e : k = n
    · subst e
      rw [mro_ge (Nat.le_refl _), gs (by omega), if_pos rfl]
      unfold dig
      rw [show k + 1 - (k + 1) = 0 by omega]
      rfl
    · rw [mro_at (by rw [List.length_set]; omega) (by omega)]
      unfold dig
      rw [show n + 1 - (k + 1) = (n - (k + 1)) + 1 by omega]
      rfl
theorem msu_eq {n x : Nat} (hn : n ≤ 3) : msu n x = psum x n := by
  match n, hn with
  | 0, _ => rfl
  | 1, _ => rfl
  | 2, _ =>
    show x % 6 + (x / 6 % 6 + 0) = x / 6 % 6 + (x % 6 + 0)
    omega
  | 3, _ =>
    show x % 6 + (x / 6 % 6 + (x / 6 / 6 % 6 + 0)) = x / 6 / 6 % 6 + (x / 6 % 6 + (x % 6 + 0))
    omega
  | n + 4, h => exact absurd h (by omega)
theorem gs_self {l : List Nat} {i v : Nat} (h : i < l.length) : (l.set i v).getD i 0 = v := by rw [gs h, if_pos rfl]
theorem i_M : (1000000 : Int32) = nI 1000000 := by decide +kernel
theorem i_36 : (36 : Int32) = nI 36 := by decide +kernel
theorem i_216 : (216 : Int32) = nI 216 := by decide +kernel
def vby (s : cS) (i n p : Nat) : Nat := if pin s i n p then psum p n else 1000000
theorem rgo_ok {mn : cM} {mc : Nat} {D : Nat → Nat} : ∀ {z k : Nat} {w : cR}, rok mc w → rok mc (rgo mn D z k w)
  | 0, _, _, h => h
  | z + 1, k, w, h => by unfold rgo; exact rgo_ok (rgs_ok h)
def dwn (j : Nat) : Int32 := if j = 0 then nm 1 else nI (j - 1)
theorem dwn_s (j : Nat) : dwn (j + 1) = nI j := by unfold dwn; rw [if_neg (by omega), Nat.add_sub_cancel]
theorem dwn_eq {j : Nat} (h : j < 1000) : nI j + nm 1 = dwn j := by
  unfold dwn
  split
  · next e => subst e; decide +kernel
  · exact nm_add (by omega)
theorem dwn_sub {j : Nat} (h : j < 1000) : nI j - nI 1 = dwn j := by rw [← dwn_eq h, Int32.sub_eq_add_neg, show nm 1 = -(nI 1) from rfl]
theorem c_R_roundsBy {s : cS} {m : mS} {P : ax_P} {i n p : Nat} {A RO BE : List Nat} (h : Rel s m) (hi : i < m.mc) (hbit : s.nw.2.1.testBit i = true) (hn : n ≤ 3) (hp : p < 1000) (hA : A.length = 10) (hO : RO.length = 3) : ax_ev mi_R_roundsBy [.ref 48, .int (nI p), .int (nI i), .int (nI n)] (mdl P m.RS m.RW m.TS m.TX m.mc m.K m.PC m.CU m.NW A m.dp m.BF m.KP m.KT m.ak m.up m.lw m.fi m.FS m.he m.rch m.rmn m.RM RO BE m.WO) (some (.int (nI (vby s i n p)))) (mdl P m.RS m.RW m.TS m.TX m.mc m.K m.PC m.CU m.NW (rmT m.mc (rgo s.mn (dig p n) n 0 s.nw)) m.dp m.BF m.KP m.KT m.ak m.up m.lw m.fi m.FS m.he m.rch m.rmn m.RM (mro n p RO) BE m.WO) := by
  have hm6 : m.mc ≤ 6 := h.mis.1.1
  have hps := psum_lt (p := p) hn
  have hNl : m.NW.length = 10 := by rw [h.gnw.2]; exact mof_len h.gnw.1.1 hm6
  have hNW : m.NW = rmT m.mc s.nw := rel_NW h
  refine ax_beg 4 rfl rfl ?_
  simp only [ax_ent, List.replicate, List.cons_append, List.nil_append, List.append_nil]
  generalize hF : rgo s.mn (dig p n) n 0 s.nw = F
  have hv : vby s i n p = if F.2.1.testBit i then psum p n else 1000000 := by unfold vby pin; rw [hF]
  have walk : ∀ (z k : Nat) (w : cR) (l4 l7 : Option Value), k + z = n → rok m.mc w → rgo s.mn (dig p n) z k w = F → ax_go mi_R_roundsBy (fun v' H'' => v' = some (.int (nI (vby s i n p))) ∧ H'' = (mdl P m.RS m.RW m.TS m.TX m.mc m.K m.PC m.CU m.NW (rmT m.mc F) m.dp m.BF m.KP m.KT m.ak m.up m.lw m.fi m.FS m.he m.rch m.rmn m.RM (mro n p RO) BE m.WO)) 60 (0, 0) [some (.ref 48), some (.int (nI p)), some (.int (nI i)), some (.int (nI n)), l4, some (.int (nI (if w.2.1.testBit i then psum p n else 1000000))), some (.int (nI k)), l7] [] (mdl P m.RS m.RW m.TS m.TX m.mc m.K m.PC m.CU m.NW (rmT m.mc w) m.dp m.BF m.KP m.KT m.ak m.up m.lw m.fi m.FS m.he m.rch m.rmn m.RM (mro n p RO) BE m.WO) := by
    intro z
    induction z with
    | zero =>
      intro k w l4 l7 e1 e2 e3
      have e4 : w = F := e3
      subst e4
      refine kk_R_roundsBy_60 _ _ _ _ _ ?_
      simp (disch := omega) only [bk_R_roundsBy_60, e_cons, e_il, e_ll, e_al, e_lc0, e_lcs, e_ei, e_el, e_er, e_const, e_istore, e_lstore, e_astore, e_iinc, e_s1_0, e_s1_1, e_s1_2, e_s1_3, e_s1_4, e_s1_5, e_s1_6, e_s1_7, e_s1_8, e_s1_9, e_s1_10, e_s2_0, e_s2_1, e_s2_2, e_s2_3, e_s2_4, e_s2_5, e_s2_6, e_s2_7, e_s2_8, e_s2_9, e_s2_10, e_dln, e_dli, e_dlr, e_dll, e_b, e_bd, e_lb, e_lbd, e_lcmp, e_i2l, e_l2i, e_i2b, e_dupi, e_dupr, e_dup2, e_getf, e_at0, e_ats, e_putI, e_putL, e_putR, e_gets, e_alen, e_iald, e_iast, e_bast, e_aast, e_if1, e_if2, e_goto, e_sw, e_iret, e_zret, e_lret, e_vret, e_obji, List.set_cons_zero, List.set_cons_succ, List.set_nil, Option.toList, List.nil_append, List.cons_append, List.length_cons, List.length_nil, true_or, or_true, true_and, and_true, nd_fold, Nat.one_mul, ↓m_1, ↓m_2, ↓m_3, ↓m_4, ↓m_9, ↓m_1000, nm_ne, nm_ne', nm_inj, nm_lt, nm_le, nm_gt, nm_ge, nm_xor, nm_add, Nat.add_sub_cancel, not_true_eq_false, not_false_eq_true, na_inj, na_le, na_lt, na_add, na_mul, na_and, na_or, na_xor, na_shl, na_shr, na_sub, i_0, i_1, i_2, i_3, i_4, i_5, i_6, i_7, i_8, i_9, i_10, i_12, i_16, i_20, i_21, i_32, i_40, i_60]
      refine ⟨fun _ => ?_, fun g => (by first | exact g.elim | exact absurd rfl g | exact absurd trivial g | exact absurd (Nat.le_refl _) g | (exfalso; omega) | exact absurd g (by decide) | exact absurd (show ¬ nI 1 = nI 0 by decide) g | exact absurd (by decide) g)⟩
      refine kk_R_roundsBy_115 _ _ _ _ _ ?_
      simp (disch := omega) only [bk_R_roundsBy_115, e_cons, e_il, e_ll, e_al, e_lc0, e_lcs, e_ei, e_el, e_er, e_const, e_istore, e_lstore, e_astore, e_iinc, e_s1_0, e_s1_1, e_s1_2, e_s1_3, e_s1_4, e_s1_5, e_s1_6, e_s1_7, e_s1_8, e_s1_9, e_s1_10, e_s2_0, e_s2_1, e_s2_2, e_s2_3, e_s2_4, e_s2_5, e_s2_6, e_s2_7, e_s2_8, e_s2_9, e_s2_10, e_dln, e_dli, e_dlr, e_dll, e_b, e_bd, e_lb, e_lbd, e_lcmp, e_i2l, e_l2i, e_i2b, e_dupi, e_dupr, e_dup2, e_getf, e_at0, e_ats, e_putI, e_putL, e_putR, e_gets, e_alen, e_iald, e_iast, e_bast, e_aast, e_if1, e_if2, e_goto, e_sw, e_iret, e_zret, e_lret, e_vret, e_obji, List.set_cons_zero, List.set_cons_succ, List.set_nil, Option.toList, List.nil_append, List.cons_append, List.length_cons, List.length_nil, true_or, or_true, true_and, and_true, nd_fold, Nat.one_mul, ↓m_1, ↓m_2, ↓m_3, ↓m_4, ↓m_9, ↓m_1000, nm_ne, nm_ne', nm_inj, nm_lt, nm_le, nm_gt, nm_ge, nm_xor, nm_add, Nat.add_sub_cancel, not_true_eq_false, not_false_eq_true, na_inj, na_le, na_lt, na_add, na_mul, na_and, na_or, na_xor, na_shl, na_shr, na_sub, i_0, i_1, i_2, i_3, i_4, i_5, i_6, i_7, i_8, i_9, i_10, i_12, i_16, i_20, i_21, i_32, i_40, i_60]
      rw [hv]
      all_goals first | exact ⟨rfl, rfl⟩ | exact rfl | exact trivial
    | succ z ih =>
      intro k w l4 l7 e1 e2 e3
      unfold rgo at e3
      have hd := mro_at (x := p) (RO := RO) (n := n) (k := k) (by omega) (by omega)
      have hlt := dig_lt (p := p) (n := n) (k := k)
      have hrl := mro_len (n := n) (x := p) (RO := RO)
      have ok2 := rgs_ok (mn := s.mn) (n := dig p n k) e2
      have nxt := fun l4 l7 => ih (k + 1) (rgs s.mn (dig p n k) w) l4 l7 (by omega) ok2 e3
      have hs := c_R_rstop (P := P) (RO := mro n p RO) (BE := BE) (n := dig p n k) h e2 (by omega)
      have hin : (rht s.mn (dig p n k) w).2.1 < 64 := ok2.1.2.2.1
      have hz2 : (rht s.mn (dig p n k) w).1.length + (List.replicate (6 - m.mc) 0).length = 6 := by rw [show (rht s.mn (dig p n k) w).1.length = m.mc from ok2.1.1, List.length_replicate]; omega
      have hmono : w.2.1.testBit i = false → (rht s.mn (dig p n k) w).2.1.testBit i = false := fun g => rgs_in g
      have hc := e2.1.2.2.2
      have lst := c_R_least_AS (P := P) (RS := m.RS) (RW := m.RW) (TS := m.TS) (TX := m.TX) (mc := m.mc) (K := m.K) (PC := m.PC) (CU := m.CU) (NW := m.NW) (dp := m.dp) (BF := m.BF) (KP := m.KP) (KT := m.KT) (ak := m.ak) (up := m.up) (lw := m.lw) (fi := m.fi) (FS := m.FS) (he := m.he) (rch := m.rch) (rmn := m.rmn) (RM := m.RM) (RO := mro n p RO) (BE := BE) (WO := m.WO) (i := (rht s.mn (dig p n k) w).2.1) (c := w.2.2.1) (b := w.2.2.2.2.1 + dig p n k) (s := w.2.2.2.2.2.1 + 1) hc hz2
      have nx2 : ∀ l4 l7, ax_go mi_R_roundsBy (fun v' H'' => v' = some (.int (nI (vby s i n p))) ∧ H'' = (mdl P m.RS m.RW m.TS m.TX m.mc m.K m.PC m.CU m.NW (rmT m.mc F) m.dp m.BF m.KP m.KT m.ak m.up m.lw m.fi m.FS m.he m.rch m.rmn m.RM (mro n p RO) BE m.WO)) 100 (0, 0) [some (.ref 48), some (.int (nI p)), some (.int (nI i)), some (.int (nI n)), l4, some (.int (nI (if w.2.1.testBit i then psum p n else 1000000))), some (.int (nI k)), l7] [.int (nI (if (rht s.mn (dig p n k) w).2.1.testBit i then psum p n else 1000000))] (mdl P m.RS m.RW m.TS m.TX m.mc m.K m.PC m.CU m.NW (mT (rht s.mn (dig p n k) w).1 (List.replicate (6 - m.mc) 0) (rht s.mn (dig p n k) w).2.1 w.2.2.1 (w.2.2.2.2.1 + dig p n k) (w.2.2.2.2.2.1 + 1)) m.dp m.BF m.KP m.KT m.ak m.up m.lw m.fi m.FS m.he m.rch m.rmn m.RM (mro n p RO) BE m.WO) := by
        intro l4 l7
        refine kk_R_roundsBy_100 _ _ _ _ _ ?_
        simp (disch := omega) only [bk_R_roundsBy_100, e_cons, e_il, e_ll, e_al, e_lc0, e_lcs, e_ei, e_el, e_er, e_const, e_istore, e_lstore, e_astore, e_iinc, e_s1_0, e_s1_1, e_s1_2, e_s1_3, e_s1_4, e_s1_5, e_s1_6, e_s1_7, e_s1_8, e_s1_9, e_s1_10, e_s2_0, e_s2_1, e_s2_2, e_s2_3, e_s2_4, e_s2_5, e_s2_6, e_s2_7, e_s2_8, e_s2_9, e_s2_10, e_dln, e_dli, e_dlr, e_dll, e_b, e_bd, e_lb, e_lbd, e_lcmp, e_i2l, e_l2i, e_i2b, e_dupi, e_dupr, e_dup2, e_getf, e_at0, e_ats, e_putI, e_putL, e_putR, e_gets, e_alen, e_iald, e_iast, e_bast, e_aast, e_if1, e_if2, e_goto, e_sw, e_iret, e_zret, e_lret, e_vret, e_obji, List.set_cons_zero, List.set_cons_succ, List.set_nil, Option.toList, List.nil_append, List.cons_append, List.length_cons, List.length_nil, true_or, or_true, true_and, and_true, nd_fold, Nat.one_mul, ↓m_1, ↓m_2, ↓m_3, ↓m_4, ↓m_9, ↓m_1000, nm_ne, nm_ne', nm_inj, nm_lt, nm_le, nm_gt, nm_ge, nm_xor, nm_add, Nat.add_sub_cancel, not_true_eq_false, not_false_eq_true, na_inj, na_le, na_lt, na_add, na_mul, na_and, na_or, na_xor, na_shl, na_shr, na_sub, i_0, i_1, i_2, i_3, i_4, i_5, i_6, i_7, i_8, i_9, i_10, i_12, i_16, i_20, i_21, i_32, i_40, i_60, om_48]
        refine k_call lst rfl rfl rfl ?_
        simp (disch := omega) only [e_cons, e_il, e_ll, e_al, e_lc0, e_lcs, e_ei, e_el, e_er, e_const, e_istore, e_lstore, e_astore, e_iinc, e_s1_0, e_s1_1, e_s1_2, e_s1_3, e_s1_4, e_s1_5, e_s1_6, e_s1_7, e_s1_8, e_s1_9, e_s1_10, e_s2_0, e_s2_1, e_s2_2, e_s2_3, e_s2_4, e_s2_5, e_s2_6, e_s2_7, e_s2_8, e_s2_9, e_s2_10, e_dln, e_dli, e_dlr, e_dll, e_b, e_bd, e_lb, e_lbd, e_lcmp, e_i2l, e_l2i, e_i2b, e_dupi, e_dupr, e_dup2, e_getf, e_at0, e_ats, e_putI, e_putL, e_putR, e_gets, e_alen, e_iald, e_iast, e_bast, e_aast, e_if1, e_if2, e_goto, e_sw, e_iret, e_zret, e_lret, e_vret, e_obji, List.set_cons_zero, List.set_cons_succ, List.set_nil, Option.toList, List.nil_append, List.cons_append, List.length_cons, List.length_nil, true_or, or_true, true_and, and_true, nd_fold, Nat.one_mul, ↓m_1, ↓m_2, ↓m_3, ↓m_4, ↓m_9, ↓m_1000, nm_ne, nm_ne', nm_inj, nm_lt, nm_le, nm_gt, nm_ge, nm_xor, nm_add, Nat.add_sub_cancel, not_true_eq_false, not_false_eq_true, na_inj, na_le, na_lt, na_add, na_mul, na_and, na_or, na_xor, na_shl, na_shr, na_sub, i_0, i_1, i_2, i_3, i_4, i_5, i_6, i_7, i_8, i_9, i_10, i_12, i_16, i_20, i_21, i_32, i_40, i_60]
        exact nxt _ _
      refine kk_R_roundsBy_60 _ _ _ _ _ ?_
      simp (disch := omega) only [bk_R_roundsBy_60, e_cons, e_il, e_ll, e_al, e_lc0, e_lcs, e_ei, e_el, e_er, e_const, e_istore, e_lstore, e_astore, e_iinc, e_s1_0, e_s1_1, e_s1_2, e_s1_3, e_s1_4, e_s1_5, e_s1_6, e_s1_7, e_s1_8, e_s1_9, e_s1_10, e_s2_0, e_s2_1, e_s2_2, e_s2_3, e_s2_4, e_s2_5, e_s2_6, e_s2_7, e_s2_8, e_s2_9, e_s2_10, e_dln, e_dli, e_dlr, e_dll, e_b, e_bd, e_lb, e_lbd, e_lcmp, e_i2l, e_l2i, e_i2b, e_dupi, e_dupr, e_dup2, e_getf, e_at0, e_ats, e_putI, e_putL, e_putR, e_gets, e_alen, e_iald, e_iast, e_bast, e_aast, e_if1, e_if2, e_goto, e_sw, e_iret, e_zret, e_lret, e_vret, e_obji, List.set_cons_zero, List.set_cons_succ, List.set_nil, Option.toList, List.nil_append, List.cons_append, List.length_cons, List.length_nil, true_or, or_true, true_and, and_true, nd_fold, Nat.one_mul, ↓m_1, ↓m_2, ↓m_3, ↓m_4, ↓m_9, ↓m_1000, nm_ne, nm_ne', nm_inj, nm_lt, nm_le, nm_gt, nm_ge, nm_xor, nm_add, Nat.add_sub_cancel, not_true_eq_false, not_false_eq_true, na_inj, na_le, na_lt, na_add, na_mul, na_and, na_or, na_xor, na_shl, na_shr, na_sub, i_0, i_1, i_2, i_3, i_4, i_5, i_6, i_7, i_8, i_9, i_10, i_12, i_16, i_20, i_21, i_32, i_40, i_60, om_48, om_63, gv_rd, hd]
      refine ⟨fun g => (by first | exact g.elim | exact absurd rfl g | exact absurd trivial g | exact absurd (Nat.le_refl _) g | (exfalso; omega) | exact absurd g (by decide) | exact absurd (show ¬ nI 1 = nI 0 by decide) g | exact absurd (by decide) g), fun _ => ?_⟩
      refine k_callV gm_48 hs rfl rfl rfl ?_
      simp (disch := omega) only [e_cons, e_il, e_ll, e_al, e_lc0, e_lcs, e_ei, e_el, e_er, e_const, e_istore, e_lstore, e_astore, e_iinc, e_s1_0, e_s1_1, e_s1_2, e_s1_3, e_s1_4, e_s1_5, e_s1_6, e_s1_7, e_s1_8, e_s1_9, e_s1_10, e_s2_0, e_s2_1, e_s2_2, e_s2_3, e_s2_4, e_s2_5, e_s2_6, e_s2_7, e_s2_8, e_s2_9, e_s2_10, e_dln, e_dli, e_dlr, e_dll, e_b, e_bd, e_lb, e_lbd, e_lcmp, e_i2l, e_l2i, e_i2b, e_dupi, e_dupr, e_dup2, e_getf, e_at0, e_ats, e_putI, e_putL, e_putR, e_gets, e_alen, e_iald, e_iast, e_bast, e_aast, e_if1, e_if2, e_goto, e_sw, e_iret, e_zret, e_lret, e_vret, e_obji, List.set_cons_zero, List.set_cons_succ, List.set_nil, Option.toList, List.nil_append, List.cons_append, List.length_cons, List.length_nil, true_or, or_true, true_and, and_true, nd_fold, Nat.one_mul, ↓m_1, ↓m_2, ↓m_3, ↓m_4, ↓m_9, ↓m_1000, nm_ne, nm_ne', nm_inj, nm_lt, nm_le, nm_gt, nm_ge, nm_xor, nm_add, Nat.add_sub_cancel, not_true_eq_false, not_false_eq_true, na_inj, na_le, na_lt, na_add, na_mul, na_and, na_or, na_xor, na_shl, na_shr, na_sub, i_0, i_1, i_2, i_3, i_4, i_5, i_6, i_7, i_8, i_9, i_10, i_12, i_16, i_20, i_21, i_32, i_40, i_60, om_48, om_57, mt_rd6]
      refine k_call (c_R_has (show (rht s.mn (dig p n k) w).2.1 < 2 ^ 31 by omega) (show i < 32 by omega)) rfl rfl rfl ?_
      simp (disch := omega) only [e_cons, e_il, e_ll, e_al, e_lc0, e_lcs, e_ei, e_el, e_er, e_const, e_istore, e_lstore, e_astore, e_iinc, e_s1_0, e_s1_1, e_s1_2, e_s1_3, e_s1_4, e_s1_5, e_s1_6, e_s1_7, e_s1_8, e_s1_9, e_s1_10, e_s2_0, e_s2_1, e_s2_2, e_s2_3, e_s2_4, e_s2_5, e_s2_6, e_s2_7, e_s2_8, e_s2_9, e_s2_10, e_dln, e_dli, e_dlr, e_dll, e_b, e_bd, e_lb, e_lbd, e_lcmp, e_i2l, e_l2i, e_i2b, e_dupi, e_dupr, e_dup2, e_getf, e_at0, e_ats, e_putI, e_putL, e_putR, e_gets, e_alen, e_iald, e_iast, e_bast, e_aast, e_if1, e_if2, e_goto, e_sw, e_iret, e_zret, e_lret, e_vret, e_obji, List.set_cons_zero, List.set_cons_succ, List.set_nil, Option.toList, List.nil_append, List.cons_append, List.length_cons, List.length_nil, true_or, or_true, true_and, and_true, nd_fold, Nat.one_mul, ↓m_1, ↓m_2, ↓m_3, ↓m_4, ↓m_9, ↓m_1000, nm_ne, nm_ne', nm_inj, nm_lt, nm_le, nm_gt, nm_ge, nm_xor, nm_add, Nat.add_sub_cancel, not_true_eq_false, not_false_eq_true, na_inj, na_le, na_lt, na_add, na_mul, na_and, na_or, na_xor, na_shl, na_shr, na_sub, i_0, i_1, i_2, i_3, i_4, i_5, i_6, i_7, i_8, i_9, i_10, i_12, i_16, i_20, i_21, i_32, i_40, i_60]
      refine ⟨fun g => ?_, fun g => ?_⟩
      · have e : (rht s.mn (dig p n k) w).2.1.testBit i = false := bzf g
        have := nx2 l4 (some (.int (nI (rht s.mn (dig p n k) w).2.2)))
        rw [e, show (if false = true then psum p n else 1000000) = 1000000 from rfl] at this
        refine kk_R_roundsBy_98 _ _ _ _ _ ?_
        simp (disch := omega) only [bk_R_roundsBy_98, e_cons, e_il, e_ll, e_al, e_lc0, e_lcs, e_ei, e_el, e_er, e_const, e_istore, e_lstore, e_astore, e_iinc, e_s1_0, e_s1_1, e_s1_2, e_s1_3, e_s1_4, e_s1_5, e_s1_6, e_s1_7, e_s1_8, e_s1_9, e_s1_10, e_s2_0, e_s2_1, e_s2_2, e_s2_3, e_s2_4, e_s2_5, e_s2_6, e_s2_7, e_s2_8, e_s2_9, e_s2_10, e_dln, e_dli, e_dlr, e_dll, e_b, e_bd, e_lb, e_lbd, e_lcmp, e_i2l, e_l2i, e_i2b, e_dupi, e_dupr, e_dup2, e_getf, e_at0, e_ats, e_putI, e_putL, e_putR, e_gets, e_alen, e_iald, e_iast, e_bast, e_aast, e_if1, e_if2, e_goto, e_sw, e_iret, e_zret, e_lret, e_vret, e_obji, List.set_cons_zero, List.set_cons_succ, List.set_nil, Option.toList, List.nil_append, List.cons_append, List.length_cons, List.length_nil, true_or, or_true, true_and, and_true, nd_fold, Nat.one_mul, ↓m_1, ↓m_2, ↓m_3, ↓m_4, ↓m_9, ↓m_1000, nm_ne, nm_ne', nm_inj, nm_lt, nm_le, nm_gt, nm_ge, nm_xor, nm_add, Nat.add_sub_cancel, not_true_eq_false, not_false_eq_true, na_inj, na_le, na_lt, na_add, na_mul, na_and, na_or, na_xor, na_shl, na_shr, na_sub, i_0, i_1, i_2, i_3, i_4, i_5, i_6, i_7, i_8, i_9, i_10, i_12, i_16, i_20, i_21, i_32, i_40, i_60, i_M]
        exact this
      · have e : (rht s.mn (dig p n k) w).2.1.testBit i = true := bzt g
        have e' : w.2.1.testBit i = true := by
          cases hb : w.2.1.testBit i
          · rw [hmono hb] at e; cases e
          · rfl
        have := nx2 l4 (some (.int (nI (rht s.mn (dig p n k) w).2.2)))
        rw [e, e', if_pos rfl] at this
        rw [e', if_pos rfl]
        exact this
  have figs : ∀ (j x a : Nat) (RO' : List Nat), RO'.length = 3 → j ≤ n → x < 1000 → a + msu j x = psum p n → mro j x RO' = mro n p RO → ax_go mi_R_roundsBy (fun v' H'' => v' = some (.int (nI (vby s i n p))) ∧ H'' = (mdl P m.RS m.RW m.TS m.TX m.mc m.K m.PC m.CU m.NW (rmT m.mc F) m.dp m.BF m.KP m.KT m.ak m.up m.lw m.fi m.FS m.he m.rch m.rmn m.RM (mro n p RO) BE m.WO)) 11 (0, 0) [some (.ref 48), some (.int (nI p)), some (.int (nI i)), some (.int (nI n)), some (.int (nI x)), some (.int (nI a)), some (.int (dwn j)), none] [] (mdl P m.RS m.RW m.TS m.TX m.mc m.K m.PC m.CU m.NW A m.dp m.BF m.KP m.KT m.ak m.up m.lw m.fi m.FS m.he m.rch m.rmn m.RM RO' BE m.WO) := by
    intro j
    induction j with
    | zero =>
      intro x a RO' e1 e2 e3 e4 e5
      have e6 : RO' = mro n p RO := e5
      have e7 : a = psum p n := by have : a + 0 = psum p n := e4; omega
      have w0 := walk n 0 s.nw (some (.int (nI x))) none (by omega) (rel_rok h) hF
      rw [hbit, if_pos rfl] at w0
      rw [e6, e7]
      rw [show dwn 0 = nm 1 from rfl]
      refine kk_R_roundsBy_11 _ _ _ _ _ ?_
      simp (disch := omega) only [bk_R_roundsBy_11, e_cons, e_il, e_ll, e_al, e_lc0, e_lcs, e_ei, e_el, e_er, e_const, e_istore, e_lstore, e_astore, e_iinc, e_s1_0, e_s1_1, e_s1_2, e_s1_3, e_s1_4, e_s1_5, e_s1_6, e_s1_7, e_s1_8, e_s1_9, e_s1_10, e_s2_0, e_s2_1, e_s2_2, e_s2_3, e_s2_4, e_s2_5, e_s2_6, e_s2_7, e_s2_8, e_s2_9, e_s2_10, e_dln, e_dli, e_dlr, e_dll, e_b, e_bd, e_lb, e_lbd, e_lcmp, e_i2l, e_l2i, e_i2b, e_dupi, e_dupr, e_dup2, e_getf, e_at0, e_ats, e_putI, e_putL, e_putR, e_gets, e_alen, e_iald, e_iast, e_bast, e_aast, e_if1, e_if2, e_goto, e_sw, e_iret, e_zret, e_lret, e_vret, e_obji, List.set_cons_zero, List.set_cons_succ, List.set_nil, Option.toList, List.nil_append, List.cons_append, List.length_cons, List.length_nil, true_or, or_true, true_and, and_true, nd_fold, Nat.one_mul, ↓m_1, ↓m_2, ↓m_3, ↓m_4, ↓m_9, ↓m_1000, nm_ne, nm_ne', nm_inj, nm_lt, nm_le, nm_gt, nm_ge, nm_xor, nm_add, Nat.add_sub_cancel, not_true_eq_false, not_false_eq_true, na_inj, na_le, na_lt, na_add, na_mul, na_and, na_or, na_xor, na_shl, na_shr, na_sub, i_0, i_1, i_2, i_3, i_4, i_5, i_6, i_7, i_8, i_9, i_10, i_12, i_16, i_20, i_21, i_32, i_40, i_60]
      refine ⟨fun _ => ?_, fun g => (by first | exact g.elim | exact absurd rfl g | exact absurd trivial g | exact absurd (Nat.le_refl _) g | (exfalso; omega) | exact absurd g (by decide) | exact absurd (show ¬ nI 1 = nI 0 by decide) g | exact absurd (by decide) g)⟩
      refine kk_R_roundsBy_53 _ _ _ _ _ ?_
      simp (disch := omega) only [bk_R_roundsBy_53, e_cons, e_il, e_ll, e_al, e_lc0, e_lcs, e_ei, e_el, e_er, e_const, e_istore, e_lstore, e_astore, e_iinc, e_s1_0, e_s1_1, e_s1_2, e_s1_3, e_s1_4, e_s1_5, e_s1_6, e_s1_7, e_s1_8, e_s1_9, e_s1_10, e_s2_0, e_s2_1, e_s2_2, e_s2_3, e_s2_4, e_s2_5, e_s2_6, e_s2_7, e_s2_8, e_s2_9, e_s2_10, e_dln, e_dli, e_dlr, e_dll, e_b, e_bd, e_lb, e_lbd, e_lcmp, e_i2l, e_l2i, e_i2b, e_dupi, e_dupr, e_dup2, e_getf, e_at0, e_ats, e_putI, e_putL, e_putR, e_gets, e_alen, e_iald, e_iast, e_bast, e_aast, e_if1, e_if2, e_goto, e_sw, e_iret, e_zret, e_lret, e_vret, e_obji, List.set_cons_zero, List.set_cons_succ, List.set_nil, Option.toList, List.nil_append, List.cons_append, List.length_cons, List.length_nil, true_or, or_true, true_and, and_true, nd_fold, Nat.one_mul, ↓m_1, ↓m_2, ↓m_3, ↓m_4, ↓m_9, ↓m_1000, nm_ne, nm_ne', nm_inj, nm_lt, nm_le, nm_gt, nm_ge, nm_xor, nm_add, Nat.add_sub_cancel, not_true_eq_false, not_false_eq_true, na_inj, na_le, na_lt, na_add, na_mul, na_and, na_or, na_xor, na_shl, na_shr, na_sub, i_0, i_1, i_2, i_3, i_4, i_5, i_6, i_7, i_8, i_9, i_10, i_12, i_16, i_20, i_21, i_32, i_40, i_60]
      refine k_callV gm_48 (c_R_layAside hNl hA) rfl rfl rfl ?_
      rw [hNW] at w0 ⊢
      simp (disch := omega) only [e_cons, e_il, e_ll, e_al, e_lc0, e_lcs, e_ei, e_el, e_er, e_const, e_istore, e_lstore, e_astore, e_iinc, e_s1_0, e_s1_1, e_s1_2, e_s1_3, e_s1_4, e_s1_5, e_s1_6, e_s1_7, e_s1_8, e_s1_9, e_s1_10, e_s2_0, e_s2_1, e_s2_2, e_s2_3, e_s2_4, e_s2_5, e_s2_6, e_s2_7, e_s2_8, e_s2_9, e_s2_10, e_dln, e_dli, e_dlr, e_dll, e_b, e_bd, e_lb, e_lbd, e_lcmp, e_i2l, e_l2i, e_i2b, e_dupi, e_dupr, e_dup2, e_getf, e_at0, e_ats, e_putI, e_putL, e_putR, e_gets, e_alen, e_iald, e_iast, e_bast, e_aast, e_if1, e_if2, e_goto, e_sw, e_iret, e_zret, e_lret, e_vret, e_obji, List.set_cons_zero, List.set_cons_succ, List.set_nil, Option.toList, List.nil_append, List.cons_append, List.length_cons, List.length_nil, true_or, or_true, true_and, and_true, nd_fold, Nat.one_mul, ↓m_1, ↓m_2, ↓m_3, ↓m_4, ↓m_9, ↓m_1000, nm_ne, nm_ne', nm_inj, nm_lt, nm_le, nm_gt, nm_ge, nm_xor, nm_add, Nat.add_sub_cancel, not_true_eq_false, not_false_eq_true, na_inj, na_le, na_lt, na_add, na_mul, na_and, na_or, na_xor, na_shl, na_shr, na_sub, i_0, i_1, i_2, i_3, i_4, i_5, i_6, i_7, i_8, i_9, i_10, i_12, i_16, i_20, i_21, i_32, i_40, i_60]
      exact w0
    | succ j ih =>
      intro x a RO' e1 e2 e3 e4 e5
      have e5' : mro j (x / 6) (RO'.set j (x % 6)) = mro n p RO := e5
      have e6 : a + (x % 6 + msu j (x / 6)) = psum p n := e4
      have hsl : (RO'.set j (x % 6)).length = 3 := by rw [List.length_set]; exact e1
      rw [dwn_s]
      refine kk_R_roundsBy_11 _ _ _ _ _ ?_
      simp (disch := omega) only [bk_R_roundsBy_11, e_cons, e_il, e_ll, e_al, e_lc0, e_lcs, e_ei, e_el, e_er, e_const, e_istore, e_lstore, e_astore, e_iinc, e_s1_0, e_s1_1, e_s1_2, e_s1_3, e_s1_4, e_s1_5, e_s1_6, e_s1_7, e_s1_8, e_s1_9, e_s1_10, e_s2_0, e_s2_1, e_s2_2, e_s2_3, e_s2_4, e_s2_5, e_s2_6, e_s2_7, e_s2_8, e_s2_9, e_s2_10, e_dln, e_dli, e_dlr, e_dll, e_b, e_bd, e_lb, e_lbd, e_lcmp, e_i2l, e_l2i, e_i2b, e_dupi, e_dupr, e_dup2, e_getf, e_at0, e_ats, e_putI, e_putL, e_putR, e_gets, e_alen, e_iald, e_iast, e_bast, e_aast, e_if1, e_if2, e_goto, e_sw, e_iret, e_zret, e_lret, e_vret, e_obji, List.set_cons_zero, List.set_cons_succ, List.set_nil, Option.toList, List.nil_append, List.cons_append, List.length_cons, List.length_nil, true_or, or_true, true_and, and_true, nd_fold, Nat.one_mul, ↓m_1, ↓m_2, ↓m_3, ↓m_4, ↓m_9, ↓m_1000, nm_ne, nm_ne', nm_inj, nm_lt, nm_le, nm_gt, nm_ge, nm_xor, nm_add, Nat.add_sub_cancel, not_true_eq_false, not_false_eq_true, na_inj, na_le, na_lt, na_add, na_mul, na_and, na_or, na_xor, na_shl, na_shr, na_sub, i_0, i_1, i_2, i_3, i_4, i_5, i_6, i_7, i_8, i_9, i_10, i_12, i_16, i_20, i_21, i_32, i_40, i_60, om_48, om_63, sm_63, gv_rd, gv_wr, gvn_set, gs_self, List.length_set, ↓na_r6, na_d6, n60, dwn_eq]
      refine ⟨fun g => (by first | exact g.elim | exact absurd rfl g | exact absurd trivial g | exact absurd (Nat.le_refl _) g | (exfalso; omega) | exact absurd g (by decide) | exact absurd (show ¬ nI 1 = nI 0 by decide) g | exact absurd (by decide) g), fun _ => ?_⟩
      exact ih (x / 6) (a + x % 6) (RO'.set j (x % 6)) (by rw [List.length_set]; exact e1) (by omega) (by omega) (by omega) e5'
  refine kk_R_roundsBy_0 _ _ _ _ _ ?_
  simp (disch := omega) only [bk_R_roundsBy_0, e_cons, e_il, e_ll, e_al, e_lc0, e_lcs, e_ei, e_el, e_er, e_const, e_istore, e_lstore, e_astore, e_iinc, e_s1_0, e_s1_1, e_s1_2, e_s1_3, e_s1_4, e_s1_5, e_s1_6, e_s1_7, e_s1_8, e_s1_9, e_s1_10, e_s2_0, e_s2_1, e_s2_2, e_s2_3, e_s2_4, e_s2_5, e_s2_6, e_s2_7, e_s2_8, e_s2_9, e_s2_10, e_dln, e_dli, e_dlr, e_dll, e_b, e_bd, e_lb, e_lbd, e_lcmp, e_i2l, e_l2i, e_i2b, e_dupi, e_dupr, e_dup2, e_getf, e_at0, e_ats, e_putI, e_putL, e_putR, e_gets, e_alen, e_iald, e_iast, e_bast, e_aast, e_if1, e_if2, e_goto, e_sw, e_iret, e_zret, e_lret, e_vret, e_obji, List.set_cons_zero, List.set_cons_succ, List.set_nil, Option.toList, List.nil_append, List.cons_append, List.length_cons, List.length_nil, true_or, or_true, true_and, and_true, nd_fold, Nat.one_mul, ↓m_1, ↓m_2, ↓m_3, ↓m_4, ↓m_9, ↓m_1000, nm_ne, nm_ne', nm_inj, nm_lt, nm_le, nm_gt, nm_ge, nm_xor, nm_add, Nat.add_sub_cancel, not_true_eq_false, not_false_eq_true, na_inj, na_le, na_lt, na_add, na_mul, na_and, na_or, na_xor, na_shl, na_shr, na_sub, i_0, i_1, i_2, i_3, i_4, i_5, i_6, i_7, i_8, i_9, i_10, i_12, i_16, i_20, i_21, i_32, i_40, i_60, dwn_sub]
  exact figs n p 0 RO hO (Nat.le_refl _) hp (by rw [msu_eq hn]; omega) rfl
