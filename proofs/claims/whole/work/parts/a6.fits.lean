/-! kinds, paces, places: fits -/
section FT
variable {s : cS} {m : mS} {xs : List Value} {τ : ax_H} {P : ax_P} {i k n kd pc p : Nat}
theorem mwp_ok (h : Rel s m) (hk : k < 6) (hw : mwp s k = 0) : ∃ q, q ≤ 8 ∧ ig s.rw.1 k = nI (2 * q) ∧ mgp (s.rw.2.getD k []) q 0 = true := by
  rcases h.rws.1.2.2.2 k (by rw [h.rws.1.1]; exact hk) with hm | ⟨n, hn, hm⟩
  · rw [mwp_1 hm] at hw; omega
  · rw [mwp_n hm hn] at hw
    by_cases hs : n % 2 = 1 ∨ 16 < n
    · rw [if_pos hs] at hw; omega
    · rw [if_neg hs] at hw
      refine ⟨n / 2, by omega, by rw [hm]; congr 1; omega, ?_⟩
      cases hg : mgp (s.rw.2.getD k []) (n / 2) 0
      · rw [hg] at hw; cases hw
      · rfl
theorem c_C_fits {q : Nat} (h : Rel s m) (hk : k < 6) (hq : q ≤ 8) (hm : ig s.rw.1 k = nI (2 * q)) (hg : mgp (s.rw.2.getD k []) q 0 = true) (hkd : kd < 6) (h1 : 1 ≤ pc) (h2 : pc < 4) (hp : p < 8) : ax_ev mi_C_fits [.ref 2, .int (nI k), .int (nI kd), .int (nI pc), .int (nI p)] (lay xs s.rw s.tx s.rm s.rr s.nx s.mn s.ru s.nw s.ra s.dd s.k0 s.k1 s.k2 s.fc s.lf s.td s.tu s.tl τ) (some (.int (nI (bz (mft kd pc p s.nw.2.2.1 (s.rw.2.getD k []) q 0))))) (lay xs s.rw s.tx s.rm s.rr s.nx s.mn s.ru s.nw s.ra s.dd s.k0 s.k1 s.k2 s.fc s.lf s.td s.tu s.tl τ) := by
  have hl := h.rws.1
  have hl1 := hl.1
  have hlk := hl.2.2.1 k hk
  have hc : s.nw.2.2.1 < 256 := h.gnw.1.1.2.2.2
  refine ax_beg 2 rfl rfl ?_
  simp only [ax_ent, List.replicate, List.cons_append, List.nil_append, List.append_nil]
  generalize hF : mft kd pc p s.nw.2.2.1 (s.rw.2.getD k []) q 0 = F
  have loop : ∀ (z y : Nat) (l6 : Option Value), y + z = q → mft kd pc p s.nw.2.2.1 (s.rw.2.getD k []) z (2 * y) = F → ax_go mi_C_fits (fun v' H'' => v' = some (.int (nI (bz F))) ∧ H'' = (lay xs s.rw s.tx s.rm s.rr s.nx s.mn s.ru s.nw s.ra s.dd s.k0 s.k1 s.k2 s.fc s.lf s.td s.tu s.tl τ)) 3 (0, 0) [some (.ref 2), some (.int (nI k)), some (.int (nI kd)), some (.int (nI pc)), some (.int (nI p)), some (.int (nI (2 * y))), l6] [] (lay xs s.rw s.tx s.rm s.rr s.nx s.mn s.ru s.nw s.ra s.dd s.k0 s.k1 s.k2 s.fc s.lf s.td s.tu s.tl τ) := by
    intro z
    induction z with
    | zero =>
      intro y l6 e1 e2
      have e3 : true = F := e2
      refine kk_C_fits_3 _ _ _ _ _ ?_
      simp (disch := omega) only [bk_C_fits_3, e_cons, e_il, e_ll, e_al, e_lc0, e_lcs, e_ei, e_el, e_er, e_const, e_istore, e_lstore, e_astore, e_iinc, e_s1_0, e_s1_1, e_s1_2, e_s1_3, e_s1_4, e_s1_5, e_s1_6, e_s1_7, e_s1_8, e_s1_9, e_s1_10, e_s2_0, e_s2_1, e_s2_2, e_s2_3, e_s2_4, e_s2_5, e_s2_6, e_s2_7, e_s2_8, e_s2_9, e_s2_10, e_dln, e_dli, e_dlr, e_dll, e_b, e_bd, e_lb, e_lbd, e_lcmp, e_i2l, e_l2i, e_i2b, e_dupi, e_dupr, e_dup2, e_getf, e_at0, e_ats, e_putI, e_putL, e_putR, e_gets, e_alen, e_iald, e_iast, e_bast, e_aast, e_if1, e_if2, e_goto, e_sw, e_iret, e_zret, e_lret, e_vret, e_obji, List.set_cons_zero, List.set_cons_succ, List.set_nil, Option.toList, List.nil_append, List.cons_append, List.length_cons, List.length_nil, true_or, or_true, true_and, and_true, nd_fold, Nat.one_mul, ↓m_1, ↓m_2, ↓m_3, ↓m_4, ↓m_9, ↓m_1000, nm_ne, nm_ne', nm_inj, nm_lt, nm_le, nm_gt, nm_ge, nm_xor, nm_add, Nat.add_sub_cancel, not_true_eq_false, not_false_eq_true, na_inj, na_le, na_lt, na_add, na_mul, na_and, na_or, na_xor, na_shl, na_shr, na_sub, i_0, i_1, i_2, i_3, i_4, i_5, i_6, i_7, i_8, i_9, i_10, i_12, i_16, i_20, i_21, i_32, i_40, i_60, oq_2, oq_3, oq_11, iv_rd, hm]
      refine ⟨fun _ => ?_, fun g => (by first | exact g.elim | exact absurd rfl g | exact absurd trivial g | exact absurd (Nat.le_refl _) g | (exfalso; omega) | exact absurd g (by decide) | exact absurd (show ¬ nI 1 = nI 0 by decide) g | exact absurd (by decide) g)⟩
      refine kk_C_fits_74 _ _ _ _ _ ?_
      simp (disch := omega) only [bk_C_fits_74, e_cons, e_il, e_ll, e_al, e_lc0, e_lcs, e_ei, e_el, e_er, e_const, e_istore, e_lstore, e_astore, e_iinc, e_s1_0, e_s1_1, e_s1_2, e_s1_3, e_s1_4, e_s1_5, e_s1_6, e_s1_7, e_s1_8, e_s1_9, e_s1_10, e_s2_0, e_s2_1, e_s2_2, e_s2_3, e_s2_4, e_s2_5, e_s2_6, e_s2_7, e_s2_8, e_s2_9, e_s2_10, e_dln, e_dli, e_dlr, e_dll, e_b, e_bd, e_lb, e_lbd, e_lcmp, e_i2l, e_l2i, e_i2b, e_dupi, e_dupr, e_dup2, e_getf, e_at0, e_ats, e_putI, e_putL, e_putR, e_gets, e_alen, e_iald, e_iast, e_bast, e_aast, e_if1, e_if2, e_goto, e_sw, e_iret, e_zret, e_lret, e_vret, e_obji, List.set_cons_zero, List.set_cons_succ, List.set_nil, Option.toList, List.nil_append, List.cons_append, List.length_cons, List.length_nil, true_or, or_true, true_and, and_true, nd_fold, Nat.one_mul, ↓m_1, ↓m_2, ↓m_3, ↓m_4, ↓m_9, ↓m_1000, nm_ne, nm_ne', nm_inj, nm_lt, nm_le, nm_gt, nm_ge, nm_xor, nm_add, Nat.add_sub_cancel, not_true_eq_false, not_false_eq_true, na_inj, na_le, na_lt, na_add, na_mul, na_and, na_or, na_xor, na_shl, na_shr, na_sub, i_0, i_1, i_2, i_3, i_4, i_5, i_6, i_7, i_8, i_9, i_10, i_12, i_16, i_20, i_21, i_32, i_40, i_60]
      rw [← e3]
      all_goals first | exact ⟨rfl, rfl⟩ | exact rfl | exact trivial
    | succ z ih =>
      intro y l6 e1 e2
      unfold mft at e2
      have hy := mgp_at hg y (by omega)
      rw [Nat.zero_add] at hy
      obtain ⟨b, hb, hbe⟩ := ix_of hy.1
      rw [hbe, nI_toInt (by omega), show ((b : Nat) : Int).toNat = b from rfl] at e2
      have ha := ms_aft_lt (k := kd) (pc := pc) (c := s.nw.2.2.1) (n := b) hp
      refine kk_C_fits_3 _ _ _ _ _ ?_
      simp (disch := omega) only [bk_C_fits_3, e_cons, e_il, e_ll, e_al, e_lc0, e_lcs, e_ei, e_el, e_er, e_const, e_istore, e_lstore, e_astore, e_iinc, e_s1_0, e_s1_1, e_s1_2, e_s1_3, e_s1_4, e_s1_5, e_s1_6, e_s1_7, e_s1_8, e_s1_9, e_s1_10, e_s2_0, e_s2_1, e_s2_2, e_s2_3, e_s2_4, e_s2_5, e_s2_6, e_s2_7, e_s2_8, e_s2_9, e_s2_10, e_dln, e_dli, e_dlr, e_dll, e_b, e_bd, e_lb, e_lbd, e_lcmp, e_i2l, e_l2i, e_i2b, e_dupi, e_dupr, e_dup2, e_getf, e_at0, e_ats, e_putI, e_putL, e_putR, e_gets, e_alen, e_iald, e_iast, e_bast, e_aast, e_if1, e_if2, e_goto, e_sw, e_iret, e_zret, e_lret, e_vret, e_obji, List.set_cons_zero, List.set_cons_succ, List.set_nil, Option.toList, List.nil_append, List.cons_append, List.length_cons, List.length_nil, true_or, or_true, true_and, and_true, nd_fold, Nat.one_mul, ↓m_1, ↓m_2, ↓m_3, ↓m_4, ↓m_9, ↓m_1000, nm_ne, nm_ne', nm_inj, nm_lt, nm_le, nm_gt, nm_ge, nm_xor, nm_add, Nat.add_sub_cancel, not_true_eq_false, not_false_eq_true, na_inj, na_le, na_lt, na_add, na_mul, na_and, na_or, na_xor, na_shl, na_shr, na_sub, i_0, i_1, i_2, i_3, i_4, i_5, i_6, i_7, i_8, i_9, i_10, i_12, i_16, i_20, i_21, i_32, i_40, i_60, oq_2, oq_3, oq_11, ol_4r, rf_rd, ol_rk, iv_rd, hm, hbe, oq_34]
      refine ⟨fun g => (by first | exact g.elim | exact absurd rfl g | exact absurd trivial g | exact absurd (Nat.le_refl _) g | (exfalso; omega) | exact absurd g (by decide) | exact absurd (show ¬ nI 1 = nI 0 by decide) g | exact absurd (by decide) g), fun _ => ?_⟩
      refine k_call (c_N_placeAfter hkd h1 h2 hp hc (show b < 1000 by omega)) rfl rfl rfl ?_
      simp (disch := omega) only [e_cons, e_il, e_ll, e_al, e_lc0, e_lcs, e_ei, e_el, e_er, e_const, e_istore, e_lstore, e_astore, e_iinc, e_s1_0, e_s1_1, e_s1_2, e_s1_3, e_s1_4, e_s1_5, e_s1_6, e_s1_7, e_s1_8, e_s1_9, e_s1_10, e_s2_0, e_s2_1, e_s2_2, e_s2_3, e_s2_4, e_s2_5, e_s2_6, e_s2_7, e_s2_8, e_s2_9, e_s2_10, e_dln, e_dli, e_dlr, e_dll, e_b, e_bd, e_lb, e_lbd, e_lcmp, e_i2l, e_l2i, e_i2b, e_dupi, e_dupr, e_dup2, e_getf, e_at0, e_ats, e_putI, e_putL, e_putR, e_gets, e_alen, e_iald, e_iast, e_bast, e_aast, e_if1, e_if2, e_goto, e_sw, e_iret, e_zret, e_lret, e_vret, e_obji, List.set_cons_zero, List.set_cons_succ, List.set_nil, Option.toList, List.nil_append, List.cons_append, List.length_cons, List.length_nil, true_or, or_true, true_and, and_true, nd_fold, Nat.one_mul, ↓m_1, ↓m_2, ↓m_3, ↓m_4, ↓m_9, ↓m_1000, nm_ne, nm_ne', nm_inj, nm_lt, nm_le, nm_gt, nm_ge, nm_xor, nm_add, Nat.add_sub_cancel, not_true_eq_false, not_false_eq_true, na_inj, na_le, na_lt, na_add, na_mul, na_and, na_or, na_xor, na_shl, na_shr, na_sub, i_0, i_1, i_2, i_3, i_4, i_5, i_6, i_7, i_8, i_9, i_10, i_12, i_16, i_20, i_21, i_32, i_40, i_60, oq_2, oq_3, ol_4r, rf_rd, ol_rk, iv_rd]
      refine ⟨fun g => ?_, fun g => ?_⟩
      · rw [decide_eq_true g, Bool.true_and] at e2
        refine kk_C_fits_68 _ _ _ _ _ ?_
        simp (disch := omega) only [bk_C_fits_68, e_cons, e_il, e_ll, e_al, e_lc0, e_lcs, e_ei, e_el, e_er, e_const, e_istore, e_lstore, e_astore, e_iinc, e_s1_0, e_s1_1, e_s1_2, e_s1_3, e_s1_4, e_s1_5, e_s1_6, e_s1_7, e_s1_8, e_s1_9, e_s1_10, e_s2_0, e_s2_1, e_s2_2, e_s2_3, e_s2_4, e_s2_5, e_s2_6, e_s2_7, e_s2_8, e_s2_9, e_s2_10, e_dln, e_dli, e_dlr, e_dll, e_b, e_bd, e_lb, e_lbd, e_lcmp, e_i2l, e_l2i, e_i2b, e_dupi, e_dupr, e_dup2, e_getf, e_at0, e_ats, e_putI, e_putL, e_putR, e_gets, e_alen, e_iald, e_iast, e_bast, e_aast, e_if1, e_if2, e_goto, e_sw, e_iret, e_zret, e_lret, e_vret, e_obji, List.set_cons_zero, List.set_cons_succ, List.set_nil, Option.toList, List.nil_append, List.cons_append, List.length_cons, List.length_nil, true_or, or_true, true_and, and_true, nd_fold, Nat.one_mul, ↓m_1, ↓m_2, ↓m_3, ↓m_4, ↓m_9, ↓m_1000, nm_ne, nm_ne', nm_inj, nm_lt, nm_le, nm_gt, nm_ge, nm_xor, nm_add, Nat.add_sub_cancel, not_true_eq_false, not_false_eq_true, na_inj, na_le, na_lt, na_add, na_mul, na_and, na_or, na_xor, na_shl, na_shr, na_sub, i_0, i_1, i_2, i_3, i_4, i_5, i_6, i_7, i_8, i_9, i_10, i_12, i_16, i_20, i_21, i_32, i_40, i_60]
        exact ih (y + 1) _ (by omega) e2
      · rw [decide_eq_false g, Bool.false_and] at e2
        rw [← e2]
        all_goals first | exact ⟨rfl, rfl⟩ | exact rfl | exact trivial
  refine kk_C_fits_0 _ _ _ _ _ ?_
  simp (disch := omega) only [bk_C_fits_0, e_cons, e_il, e_ll, e_al, e_lc0, e_lcs, e_ei, e_el, e_er, e_const, e_istore, e_lstore, e_astore, e_iinc, e_s1_0, e_s1_1, e_s1_2, e_s1_3, e_s1_4, e_s1_5, e_s1_6, e_s1_7, e_s1_8, e_s1_9, e_s1_10, e_s2_0, e_s2_1, e_s2_2, e_s2_3, e_s2_4, e_s2_5, e_s2_6, e_s2_7, e_s2_8, e_s2_9, e_s2_10, e_dln, e_dli, e_dlr, e_dll, e_b, e_bd, e_lb, e_lbd, e_lcmp, e_i2l, e_l2i, e_i2b, e_dupi, e_dupr, e_dup2, e_getf, e_at0, e_ats, e_putI, e_putL, e_putR, e_gets, e_alen, e_iald, e_iast, e_bast, e_aast, e_if1, e_if2, e_goto, e_sw, e_iret, e_zret, e_lret, e_vret, e_obji, List.set_cons_zero, List.set_cons_succ, List.set_nil, Option.toList, List.nil_append, List.cons_append, List.length_cons, List.length_nil, true_or, or_true, true_and, and_true, nd_fold, Nat.one_mul, ↓m_1, ↓m_2, ↓m_3, ↓m_4, ↓m_9, ↓m_1000, nm_ne, nm_ne', nm_inj, nm_lt, nm_le, nm_gt, nm_ge, nm_xor, nm_add, Nat.add_sub_cancel, not_true_eq_false, not_false_eq_true, na_inj, na_le, na_lt, na_add, na_mul, na_and, na_or, na_xor, na_shl, na_shr, na_sub, i_0, i_1, i_2, i_3, i_4, i_5, i_6, i_7, i_8, i_9, i_10, i_12, i_16, i_20, i_21, i_32, i_40, i_60]
  exact loop q 0 none (by omega) hF
theorem c_R_isSo {q : Nat} (h : Rel s m) (hk : k < 6) (hq : q ≤ 8) (hm : ig s.rw.1 k = nI (2 * q)) (hg : mgp (s.rw.2.getD k []) q 0 = true) (hkd : kd < 6) (h1 : 1 ≤ pc) (h2 : pc < 4) (hp : p < 8) : ax_ev mi_R_isSo [.ref 48, .int (nI k), .int (nI kd), .int (nI pc), .int (nI p)] (mdl P m.RS m.RW m.TS m.TX m.mc m.K m.PC m.CU m.NW m.AS m.dp m.BF m.KP m.KT m.ak m.up m.lw m.fi m.FS m.he m.rch m.rmn m.RM m.RO m.BE m.WO) (some (.int (nI (bz (mft kd pc p s.nw.2.2.1 (s.rw.2.getD k []) q 0))))) (mdl P m.RS m.RW m.TS m.TX m.mc m.K m.PC m.CU m.NW m.AS m.dp m.BF m.KP m.KT m.ak m.up m.lw m.fi m.FS m.he m.rch m.rmn m.RM m.RO m.BE m.WO) := by
  have hl := h.rws.1
  have hl2 : m.RS.length = 6 := by rw [h.rws.2.1]; exact hl.1
  have hW2 : m.RW.length = 240 := h.rws.2.2.1
  have hm2 : ig m.RS k = nI (2 * q) := by rw [h.rws.2.1]; exact hm
  have hcc := h.rws.2.2.2 k hk (2 * q) (by omega) hm
  have hz := rel_Z h
  have hNW := rel_NW h
  have hc : s.nw.2.2.1 < 256 := h.gnw.1.1.2.2.2
  have af : ∀ b, b < 1000 → ax_ev mi_R_after [.ref 48, .int (nI kd), .int (nI pc), .int (nI p), .int (nI b)] (mdl P m.RS m.RW m.TS m.TX m.mc m.K m.PC m.CU m.NW m.AS m.dp m.BF m.KP m.KT m.ak m.up m.lw m.fi m.FS m.he m.rch m.rmn m.RM m.RO m.BE m.WO) (some (.int (nI (ms_aft kd pc s.nw.2.2.1 b p)))) (mdl P m.RS m.RW m.TS m.TX m.mc m.K m.PC m.CU m.NW m.AS m.dp m.BF m.KP m.KT m.ak m.up m.lw m.fi m.FS m.he m.rch m.rmn m.RM m.RO m.BE m.WO) := by
    intro b hb
    rw [hNW]
    exact c_R_after hc hz hkd h1 h2 hp hb
  refine ax_beg 2 rfl rfl ?_
  simp only [ax_ent, List.replicate, List.cons_append, List.nil_append, List.append_nil]
  generalize hF : mft kd pc p s.nw.2.2.1 (s.rw.2.getD k []) q 0 = F
  have loop : ∀ (z y : Nat) (t : Bool), y + z = q → (t && mft kd pc p s.nw.2.2.1 (s.rw.2.getD k []) z (2 * y)) = F → ax_go mi_R_isSo (fun v' H'' => v' = some (.int (nI (bz F))) ∧ H'' = (mdl P m.RS m.RW m.TS m.TX m.mc m.K m.PC m.CU m.NW m.AS m.dp m.BF m.KP m.KT m.ak m.up m.lw m.fi m.FS m.he m.rch m.rmn m.RM m.RO m.BE m.WO)) 6 (0, 0) [some (.ref 48), some (.int (nI k)), some (.int (nI kd)), some (.int (nI pc)), some (.int (nI p)), some (.int (nI (bz t))), some (.int (nI (2 * y)))] [] (mdl P m.RS m.RW m.TS m.TX m.mc m.K m.PC m.CU m.NW m.AS m.dp m.BF m.KP m.KT m.ak m.up m.lw m.fi m.FS m.he m.rch m.rmn m.RM m.RO m.BE m.WO) := by
    intro z
    induction z with
    | zero =>
      intro y t e1 e2
      have e3 : t = F := by rw [← e2]; exact (Bool.and_true t).symm
      have hb := bz_01 F
      refine kk_R_isSo_6 _ _ _ _ _ ?_
      simp (disch := omega) only [bk_R_isSo_6, e_cons, e_il, e_ll, e_al, e_lc0, e_lcs, e_ei, e_el, e_er, e_const, e_istore, e_lstore, e_astore, e_iinc, e_s1_0, e_s1_1, e_s1_2, e_s1_3, e_s1_4, e_s1_5, e_s1_6, e_s1_7, e_s1_8, e_s1_9, e_s1_10, e_s2_0, e_s2_1, e_s2_2, e_s2_3, e_s2_4, e_s2_5, e_s2_6, e_s2_7, e_s2_8, e_s2_9, e_s2_10, e_dln, e_dli, e_dlr, e_dll, e_b, e_bd, e_lb, e_lbd, e_lcmp, e_i2l, e_l2i, e_i2b, e_dupi, e_dupr, e_dup2, e_getf, e_at0, e_ats, e_putI, e_putL, e_putR, e_gets, e_alen, e_iald, e_iast, e_bast, e_aast, e_if1, e_if2, e_goto, e_sw, e_iret, e_zret, e_lret, e_vret, e_obji, List.set_cons_zero, List.set_cons_succ, List.set_nil, Option.toList, List.nil_append, List.cons_append, List.length_cons, List.length_nil, true_or, or_true, true_and, and_true, nd_fold, Nat.one_mul, ↓m_1, ↓m_2, ↓m_3, ↓m_4, ↓m_9, ↓m_1000, nm_ne, nm_ne', nm_inj, nm_lt, nm_le, nm_gt, nm_ge, nm_xor, nm_add, Nat.add_sub_cancel, not_true_eq_false, not_false_eq_true, na_inj, na_le, na_lt, na_add, na_mul, na_and, na_or, na_xor, na_shl, na_shr, na_sub, i_0, i_1, i_2, i_3, i_4, i_5, i_6, i_7, i_8, i_9, i_10, i_12, i_16, i_20, i_21, i_32, i_40, i_60, om_48, om_49, iv_rd, hm2]
      refine ⟨fun _ => ?_, fun g => (by first | exact g.elim | exact absurd rfl g | exact absurd trivial g | exact absurd (Nat.le_refl _) g | (exfalso; omega) | exact absurd g (by decide) | exact absurd (show ¬ nI 1 = nI 0 by decide) g | exact absurd (by decide) g)⟩
      rw [e3]
      refine kk_R_isSo_72 _ _ _ _ _ ?_
      simp (disch := omega) only [bk_R_isSo_72, e_cons, e_il, e_ll, e_al, e_lc0, e_lcs, e_ei, e_el, e_er, e_const, e_istore, e_lstore, e_astore, e_iinc, e_s1_0, e_s1_1, e_s1_2, e_s1_3, e_s1_4, e_s1_5, e_s1_6, e_s1_7, e_s1_8, e_s1_9, e_s1_10, e_s2_0, e_s2_1, e_s2_2, e_s2_3, e_s2_4, e_s2_5, e_s2_6, e_s2_7, e_s2_8, e_s2_9, e_s2_10, e_dln, e_dli, e_dlr, e_dll, e_b, e_bd, e_lb, e_lbd, e_lcmp, e_i2l, e_l2i, e_i2b, e_dupi, e_dupr, e_dup2, e_getf, e_at0, e_ats, e_putI, e_putL, e_putR, e_gets, e_alen, e_iald, e_iast, e_bast, e_aast, e_if1, e_if2, e_goto, e_sw, e_iret, e_zret, e_lret, e_vret, e_obji, List.set_cons_zero, List.set_cons_succ, List.set_nil, Option.toList, List.nil_append, List.cons_append, List.length_cons, List.length_nil, true_or, or_true, true_and, and_true, nd_fold, Nat.one_mul, ↓m_1, ↓m_2, ↓m_3, ↓m_4, ↓m_9, ↓m_1000, nm_ne, nm_ne', nm_inj, nm_lt, nm_le, nm_gt, nm_ge, nm_xor, nm_add, Nat.add_sub_cancel, not_true_eq_false, not_false_eq_true, na_inj, na_le, na_lt, na_add, na_mul, na_and, na_or, na_xor, na_shl, na_shr, na_sub, i_0, i_1, i_2, i_3, i_4, i_5, i_6, i_7, i_8, i_9, i_10, i_12, i_16, i_20, i_21, i_32, i_40, i_60]
      omega
    | succ z ih =>
      intro y t e1 e2
      unfold mft at e2
      have hy := mgp_at hg y (by omega)
      rw [Nat.zero_add] at hy
      obtain ⟨b, hb, hbe⟩ := ix_of hy.1
      rw [hbe, nI_toInt (by omega), show ((b : Nat) : Int).toNat = b from rfl] at e2
      have ha := ms_aft_lt (k := kd) (pc := pc) (c := s.nw.2.2.1) (n := b) hp
      have r0 := hcc (2 * y) (by omega)
      have r1 := hcc (2 * y + 1) (by omega)
      have r1' : ig m.RW (40 * k + 2 * y + 1) = ig (s.rw.2.getD k []) (2 * y + 1) := by rw [← r1]; congr 1
      rw [hbe] at r0
      have nxt : ∀ b' l5, (b' && mft kd pc p s.nw.2.2.1 (s.rw.2.getD k []) z (2 * (y + 1))) = F → ax_go mi_R_isSo (fun v' H'' => v' = some (.int (nI (bz F))) ∧ H'' = (mdl P m.RS m.RW m.TS m.TX m.mc m.K m.PC m.CU m.NW m.AS m.dp m.BF m.KP m.KT m.ak m.up m.lw m.fi m.FS m.he m.rch m.rmn m.RM m.RO m.BE m.WO)) 64 (0, 0) [some (.ref 48), some (.int (nI k)), some (.int (nI kd)), some (.int (nI pc)), some (.int (nI p)), l5, some (.int (nI (2 * y)))] [.int (nI (bz b'))] (mdl P m.RS m.RW m.TS m.TX m.mc m.K m.PC m.CU m.NW m.AS m.dp m.BF m.KP m.KT m.ak m.up m.lw m.fi m.FS m.he m.rch m.rmn m.RM m.RO m.BE m.WO) := by
        intro b' l5 f3
        refine kk_R_isSo_64 _ _ _ _ _ ?_
        simp (disch := omega) only [bk_R_isSo_64, e_cons, e_il, e_ll, e_al, e_lc0, e_lcs, e_ei, e_el, e_er, e_const, e_istore, e_lstore, e_astore, e_iinc, e_s1_0, e_s1_1, e_s1_2, e_s1_3, e_s1_4, e_s1_5, e_s1_6, e_s1_7, e_s1_8, e_s1_9, e_s1_10, e_s2_0, e_s2_1, e_s2_2, e_s2_3, e_s2_4, e_s2_5, e_s2_6, e_s2_7, e_s2_8, e_s2_9, e_s2_10, e_dln, e_dli, e_dlr, e_dll, e_b, e_bd, e_lb, e_lbd, e_lcmp, e_i2l, e_l2i, e_i2b, e_dupi, e_dupr, e_dup2, e_getf, e_at0, e_ats, e_putI, e_putL, e_putR, e_gets, e_alen, e_iald, e_iast, e_bast, e_aast, e_if1, e_if2, e_goto, e_sw, e_iret, e_zret, e_lret, e_vret, e_obji, List.set_cons_zero, List.set_cons_succ, List.set_nil, Option.toList, List.nil_append, List.cons_append, List.length_cons, List.length_nil, true_or, or_true, true_and, and_true, nd_fold, Nat.one_mul, ↓m_1, ↓m_2, ↓m_3, ↓m_4, ↓m_9, ↓m_1000, nm_ne, nm_ne', nm_inj, nm_lt, nm_le, nm_gt, nm_ge, nm_xor, nm_add, Nat.add_sub_cancel, not_true_eq_false, not_false_eq_true, na_inj, na_le, na_lt, na_add, na_mul, na_and, na_or, na_xor, na_shl, na_shr, na_sub, i_0, i_1, i_2, i_3, i_4, i_5, i_6, i_7, i_8, i_9, i_10, i_12, i_16, i_20, i_21, i_32, i_40, i_60]
        exact ih (y + 1) b' (by omega) f3
      refine kk_R_isSo_6 _ _ _ _ _ ?_
      simp (disch := omega) only [bk_R_isSo_6, e_cons, e_il, e_ll, e_al, e_lc0, e_lcs, e_ei, e_el, e_er, e_const, e_istore, e_lstore, e_astore, e_iinc, e_s1_0, e_s1_1, e_s1_2, e_s1_3, e_s1_4, e_s1_5, e_s1_6, e_s1_7, e_s1_8, e_s1_9, e_s1_10, e_s2_0, e_s2_1, e_s2_2, e_s2_3, e_s2_4, e_s2_5, e_s2_6, e_s2_7, e_s2_8, e_s2_9, e_s2_10, e_dln, e_dli, e_dlr, e_dll, e_b, e_bd, e_lb, e_lbd, e_lcmp, e_i2l, e_l2i, e_i2b, e_dupi, e_dupr, e_dup2, e_getf, e_at0, e_ats, e_putI, e_putL, e_putR, e_gets, e_alen, e_iald, e_iast, e_bast, e_aast, e_if1, e_if2, e_goto, e_sw, e_iret, e_zret, e_lret, e_vret, e_obji, List.set_cons_zero, List.set_cons_succ, List.set_nil, Option.toList, List.nil_append, List.cons_append, List.length_cons, List.length_nil, true_or, or_true, true_and, and_true, nd_fold, Nat.one_mul, ↓m_1, ↓m_2, ↓m_3, ↓m_4, ↓m_9, ↓m_1000, nm_ne, nm_ne', nm_inj, nm_lt, nm_le, nm_gt, nm_ge, nm_xor, nm_add, Nat.add_sub_cancel, not_true_eq_false, not_false_eq_true, na_inj, na_le, na_lt, na_add, na_mul, na_and, na_or, na_xor, na_shl, na_shr, na_sub, i_0, i_1, i_2, i_3, i_4, i_5, i_6, i_7, i_8, i_9, i_10, i_12, i_16, i_20, i_21, i_32, i_40, i_60, om_48, om_49, om_50, iv_rd, hm2, r0]
      refine ⟨fun g => (by first | exact g.elim | exact absurd rfl g | exact absurd trivial g | exact absurd (Nat.le_refl _) g | (exfalso; omega) | exact absurd g (by decide) | exact absurd (show ¬ nI 1 = nI 0 by decide) g | exact absurd (by decide) g), fun _ => ?_⟩
      refine ⟨fun g => ?_, fun g => ?_⟩
      · rw [bzf g] at e2
        refine kk_R_isSo_63 _ _ _ _ _ ?_
        simp (disch := omega) only [bk_R_isSo_63, e_cons, e_il, e_ll, e_al, e_lc0, e_lcs, e_ei, e_el, e_er, e_const, e_istore, e_lstore, e_astore, e_iinc, e_s1_0, e_s1_1, e_s1_2, e_s1_3, e_s1_4, e_s1_5, e_s1_6, e_s1_7, e_s1_8, e_s1_9, e_s1_10, e_s2_0, e_s2_1, e_s2_2, e_s2_3, e_s2_4, e_s2_5, e_s2_6, e_s2_7, e_s2_8, e_s2_9, e_s2_10, e_dln, e_dli, e_dlr, e_dll, e_b, e_bd, e_lb, e_lbd, e_lcmp, e_i2l, e_l2i, e_i2b, e_dupi, e_dupr, e_dup2, e_getf, e_at0, e_ats, e_putI, e_putL, e_putR, e_gets, e_alen, e_iald, e_iast, e_bast, e_aast, e_if1, e_if2, e_goto, e_sw, e_iret, e_zret, e_lret, e_vret, e_obji, List.set_cons_zero, List.set_cons_succ, List.set_nil, Option.toList, List.nil_append, List.cons_append, List.length_cons, List.length_nil, true_or, or_true, true_and, and_true, nd_fold, Nat.one_mul, ↓m_1, ↓m_2, ↓m_3, ↓m_4, ↓m_9, ↓m_1000, nm_ne, nm_ne', nm_inj, nm_lt, nm_le, nm_gt, nm_ge, nm_xor, nm_add, Nat.add_sub_cancel, not_true_eq_false, not_false_eq_true, na_inj, na_le, na_lt, na_add, na_mul, na_and, na_or, na_xor, na_shl, na_shr, na_sub, i_0, i_1, i_2, i_3, i_4, i_5, i_6, i_7, i_8, i_9, i_10, i_12, i_16, i_20, i_21, i_32, i_40, i_60]
        exact nxt false _ (by rw [← e2]; rfl)
      · rw [bzt g, Bool.true_and] at e2
        refine k_callV gm_48 (af b (by omega)) rfl rfl rfl ?_
        simp (disch := omega) only [e_cons, e_il, e_ll, e_al, e_lc0, e_lcs, e_ei, e_el, e_er, e_const, e_istore, e_lstore, e_astore, e_iinc, e_s1_0, e_s1_1, e_s1_2, e_s1_3, e_s1_4, e_s1_5, e_s1_6, e_s1_7, e_s1_8, e_s1_9, e_s1_10, e_s2_0, e_s2_1, e_s2_2, e_s2_3, e_s2_4, e_s2_5, e_s2_6, e_s2_7, e_s2_8, e_s2_9, e_s2_10, e_dln, e_dli, e_dlr, e_dll, e_b, e_bd, e_lb, e_lbd, e_lcmp, e_i2l, e_l2i, e_i2b, e_dupi, e_dupr, e_dup2, e_getf, e_at0, e_ats, e_putI, e_putL, e_putR, e_gets, e_alen, e_iald, e_iast, e_bast, e_aast, e_if1, e_if2, e_goto, e_sw, e_iret, e_zret, e_lret, e_vret, e_obji, List.set_cons_zero, List.set_cons_succ, List.set_nil, Option.toList, List.nil_append, List.cons_append, List.length_cons, List.length_nil, true_or, or_true, true_and, and_true, nd_fold, Nat.one_mul, ↓m_1, ↓m_2, ↓m_3, ↓m_4, ↓m_9, ↓m_1000, nm_ne, nm_ne', nm_inj, nm_lt, nm_le, nm_gt, nm_ge, nm_xor, nm_add, Nat.add_sub_cancel, not_true_eq_false, not_false_eq_true, na_inj, na_le, na_lt, na_add, na_mul, na_and, na_or, na_xor, na_shl, na_shr, na_sub, i_0, i_1, i_2, i_3, i_4, i_5, i_6, i_7, i_8, i_9, i_10, i_12, i_16, i_20, i_21, i_32, i_40, i_60, om_48, om_50, iv_rd, r1']
        refine ⟨fun g => ?_, fun g => ?_⟩
        · rw [decide_eq_false g] at e2
          refine kk_R_isSo_63 _ _ _ _ _ ?_
          simp (disch := omega) only [bk_R_isSo_63, e_cons, e_il, e_ll, e_al, e_lc0, e_lcs, e_ei, e_el, e_er, e_const, e_istore, e_lstore, e_astore, e_iinc, e_s1_0, e_s1_1, e_s1_2, e_s1_3, e_s1_4, e_s1_5, e_s1_6, e_s1_7, e_s1_8, e_s1_9, e_s1_10, e_s2_0, e_s2_1, e_s2_2, e_s2_3, e_s2_4, e_s2_5, e_s2_6, e_s2_7, e_s2_8, e_s2_9, e_s2_10, e_dln, e_dli, e_dlr, e_dll, e_b, e_bd, e_lb, e_lbd, e_lcmp, e_i2l, e_l2i, e_i2b, e_dupi, e_dupr, e_dup2, e_getf, e_at0, e_ats, e_putI, e_putL, e_putR, e_gets, e_alen, e_iald, e_iast, e_bast, e_aast, e_if1, e_if2, e_goto, e_sw, e_iret, e_zret, e_lret, e_vret, e_obji, List.set_cons_zero, List.set_cons_succ, List.set_nil, Option.toList, List.nil_append, List.cons_append, List.length_cons, List.length_nil, true_or, or_true, true_and, and_true, nd_fold, Nat.one_mul, ↓m_1, ↓m_2, ↓m_3, ↓m_4, ↓m_9, ↓m_1000, nm_ne, nm_ne', nm_inj, nm_lt, nm_le, nm_gt, nm_ge, nm_xor, nm_add, Nat.add_sub_cancel, not_true_eq_false, not_false_eq_true, na_inj, na_le, na_lt, na_add, na_mul, na_and, na_or, na_xor, na_shl, na_shr, na_sub, i_0, i_1, i_2, i_3, i_4, i_5, i_6, i_7, i_8, i_9, i_10, i_12, i_16, i_20, i_21, i_32, i_40, i_60]
          exact nxt false _ (by rw [← e2]; rfl)
        · rw [decide_eq_true (Classical.not_not.mp g)] at e2
          exact nxt true _ e2
  refine kk_R_isSo_0 _ _ _ _ _ ?_
  simp (disch := omega) only [bk_R_isSo_0, e_cons, e_il, e_ll, e_al, e_lc0, e_lcs, e_ei, e_el, e_er, e_const, e_istore, e_lstore, e_astore, e_iinc, e_s1_0, e_s1_1, e_s1_2, e_s1_3, e_s1_4, e_s1_5, e_s1_6, e_s1_7, e_s1_8, e_s1_9, e_s1_10, e_s2_0, e_s2_1, e_s2_2, e_s2_3, e_s2_4, e_s2_5, e_s2_6, e_s2_7, e_s2_8, e_s2_9, e_s2_10, e_dln, e_dli, e_dlr, e_dll, e_b, e_bd, e_lb, e_lbd, e_lcmp, e_i2l, e_l2i, e_i2b, e_dupi, e_dupr, e_dup2, e_getf, e_at0, e_ats, e_putI, e_putL, e_putR, e_gets, e_alen, e_iald, e_iast, e_bast, e_aast, e_if1, e_if2, e_goto, e_sw, e_iret, e_zret, e_lret, e_vret, e_obji, List.set_cons_zero, List.set_cons_succ, List.set_nil, Option.toList, List.nil_append, List.cons_append, List.length_cons, List.length_nil, true_or, or_true, true_and, and_true, nd_fold, Nat.one_mul, ↓m_1, ↓m_2, ↓m_3, ↓m_4, ↓m_9, ↓m_1000, nm_ne, nm_ne', nm_inj, nm_lt, nm_le, nm_gt, nm_ge, nm_xor, nm_add, Nat.add_sub_cancel, not_true_eq_false, not_false_eq_true, na_inj, na_le, na_lt, na_add, na_mul, na_and, na_or, na_xor, na_shl, na_shr, na_sub, i_0, i_1, i_2, i_3, i_4, i_5, i_6, i_7, i_8, i_9, i_10, i_12, i_16, i_20, i_21, i_32, i_40, i_60]
  exact loop q 0 true (by omega) (by rw [hF, Bool.true_and])
end FT
