/-! undo, side by side -/
theorem gaf_eqg {mn : List Nat × List Nat × List Nat × List Nat × List Int32 × List Int32 × List Int32 × List Int32} : ∀ {ds : List Nat} {g g' : ms_G}, eqg g g' → eqg (gaf mn g ds) (gaf mn g' ds)
  | [], _, _, h => h
  | d :: ds, g, g', h => gaf_eqg (ds := ds) (eqg_ug h)
theorem gaf_in {mn : List Nat × List Nat × List Nat × List Nat × List Int32 × List Int32 × List Int32 × List Int32} {e : Nat} : ∀ {ds : List Nat} {g : ms_G}, (gaf mn g ds).2.1.testBit e = true → g.2.1.testBit e = true
  | [], _, h => h
  | d :: ds, g, h => ms_ug_in (gaf_in (ds := ds) h)
theorem cst_eqg (nw ru : cR) : eqg (gof (cst nw ru)) (gof ru) := ⟨rfl, rfl, rfl, rfl, rfl⟩
theorem ten {l m : List Nat} (h1 : l.length = 10) (h2 : m.length = 10) (h : ∀ j, j < 10 → l.getD j 0 = m.getD j 0) : l = m := lx (by omega) (fun j hj => h j (by omega))
theorem gaf_wf {mn : List Nat × List Nat × List Nat × List Nat × List Int32 × List Int32 × List Int32 × List Int32} {mc : Nat} {g : ms_G} {ds : List Nat} (h : gwf mc g) : gwf mc (gaf mn g ds) := cfl_wf h
/-- the ring behind a replay -/
theorem rep_ok {s : cS} {m : mS} (h : Rel s m) (ds : List Nat) : gok m.mc (cset (cst s.nw s.ru) (cfl s.mn (cgof (cst s.nw s.ru)) ds)) ∧ eqg (gof (cset (cst s.nw s.ru) (cfl s.mn (cgof (cst s.nw s.ru)) ds))) (gaf s.mn (gof s.ru) ds) := by
  obtain ⟨g1, g2, g3⟩ := h.gst.1
  have e : gof (cset (cst s.nw s.ru) (cfl s.mn (cgof (cst s.nw s.ru)) ds)) = gaf s.mn (gof (cst s.nw s.ru)) ds := rfl
  refine ⟨⟨?_, ?_, ?_⟩, ?_⟩
  · rw [e]; exact gaf_wf g1
  · intro x hx
    exact g2 x (gaf_in (mn := s.mn) (ds := ds) (g := gof (cst s.nw s.ru)) hx)
  · exact g3
  · rw [e]; exact gaf_eqg (cst_eqg _ _)
theorem his_take {mc k : Nat} {mn : List Nat × List Nat × List Nat × List Nat × List Int32 × List Int32 × List Int32 × List Int32} {g : ms_G} {ds BF : List Nat} {a : Nat} (h : his mc mn g ds BF a) : his mc mn g (ds.take k) BF a := by
  intro x hx j hj
  rw [List.length_take] at hx
  rw [List.take_take, Nat.min_eq_left (by omega)]
  exact h x (by omega) j hj
theorem op_undo (x : Int32) : opOk mi_C_undo mi_R_undo [.int x] := by
  intro s m h
  have hm6 : m.mc ≤ 6 := h.mis.1.1
  have hmc := rel_mc h
  obtain ⟨d1, d2, d3, d4, d5⟩ := id h.ded
  have hdl := d2.1
  have e0 : (x < nI 0) = (x.toInt < 0) := toI_lt _
  have e1 : (x ≤ nI s.dd.1.length) = (x.toInt ≤ (s.dd.1.length : Int)) := toI_le _ (by omega)
  have hin := fun H => c_R_in (v := x.toInt64) (l := 0) (m := (nI m.dp).toInt64) (H := H)
  rw [Int32.toInt_toInt64, Int32.toInt_toInt64, nI_toInt (by omega), show (0 : Int64).toInt = 0 by decide, d1] at hin
  by_cases hx : 0 ≤ x.toInt ∧ x.toInt ≤ (s.dd.1.length : Int)
  · obtain ⟨n, hn, rfl⟩ : ∃ n, n ≤ s.dd.1.length ∧ x = nI n := ⟨x.toInt.toNat, by omega, nJ_of hx.1⟩
    obtain ⟨q1, q2⟩ := rep_ok h (s.dd.1.take n)
    have hW := rel_W h
    have hR : gwf s.mn.1.length (cgof s.ru) := by rw [hmc]; exact h.gst.1.1
    have l1 : s.nw.1.length + s.nw.2.2.2.2.2.2.length = 6 := by have a := h.gnw.1.1.1; have b := h.gnw.1.2.2; have e : (gof s.nw).1 = s.nw.1 := rfl; rw [e] at a; omega
    have l2 : s.ru.1.length + s.ru.2.2.2.2.2.2.length = 6 := by have a := h.gst.1.1.1; have b := h.gst.1.2.2; have e : (gof s.ru).1 = s.ru.1 := rfl; rw [e] at a; omega
    have hN10 : m.NW.length = 10 := by rw [h.gnw.2]; exact mof_len h.gnw.1.1 hm6
    have hmof := eqg_mof (mc := m.mc) q2
    have hNW' : (if n < s.dd.1.length then cpn m.NW 0 m.BF (10 * n) 10 else m.NW) = mof m.mc (gof (cset (cst s.nw s.ru) (cfl s.mn (cgof (cst s.nw s.ru)) (s.dd.1.take n)))) := by
      rw [hmof]
      split
      · next hlt =>
        refine ten (by rw [cpn_len]; exact hN10) (mof_len (gaf_wf h.gst.1.1) hm6) fun j hj => ?_
        rw [cpn_at (by omega), if_pos (by omega)]
        have := d5 n hlt j hj
        rw [Nat.zero_add] at this
        rw [show j - 0 = j from rfl]
        exact this
      · next hge =>
        rw [List.take_of_length_le (by omega), h.gnw.2]
        exact eqg_mof h.now
    generalize hw : cset (cst s.nw s.ru) (cfl s.mn (cgof (cst s.nw s.ru)) (s.dd.1.take n)) = w at *
    have hrel : Rel (s.rw, s.tx, s.rm, s.rr, s.nx, s.mn, s.ru, w, s.ra, (s.dd.1.take n, (s.dd.1.drop n).map nI ++ s.dd.2), s.k0, s.k1, s.k2, s.fc, s.lf, s.td, s.tu, s.tl) (m.RS, m.RW, m.TS, m.TX, m.mc, m.K, m.PC, m.CU, (if n < s.dd.1.length then cpn m.NW 0 m.BF (10 * n) 10 else m.NW), m.AS, n, m.BF, m.KP, m.KT, m.ak, m.up, m.lw, m.fi, m.FS, m.he, m.rch, m.rmn, m.RM, m.RO, m.BE, m.WO) := by
      refine (rel_mk (h.rws) (h.txs) (h.fnd) (h.tld) (h.frc) (h.mis) (h.gst) (⟨q1, hNW'⟩) (q2) (⟨?_, ⟨?_, ?_⟩, ?_, d4, his_take d5⟩) (h.kps) (h.rdr) (h.asd) (h.aux))
      · show n = (s.dd.1.take n).length; rw [List.length_take]; omega
      · show (s.dd.1.take n).length ≤ 40; rw [List.length_take]; omega
      · intro d hd; exact d2.2 d (List.mem_of_mem_take hd)
      · show (s.dd.1.take n).length + ((s.dd.1.drop n).map nI ++ s.dd.2).length = 40
        simp only [List.length_take, List.length_append, List.length_map, List.length_drop]
        omega
    refine ⟨(nI (s.dd.1.length - n)), _, _, fun xs τ => ?_, fun P => ?_, hrel⟩
    · have hrep := fun (dr : List Int32) => c_C_replay (xs := xs) (rw := s.rw) (tx := s.tx) (rm := s.rm) (rr := s.rr) (nx := s.nx) (mn := s.mn) (ru := s.ru) (nw := s.nw) (ra := s.ra) (dd := (s.dd.1.take n, dr)) (k0 := s.k0) (k1 := s.k1) (k2 := s.k2) (fc := s.fc) (lf := s.lf) (td := s.td) (tu := s.tu) (tl := s.tl) (τ := τ) hW hR l1 l2 (by show (s.dd.1.take n).length ≤ 40; rw [List.length_take]; omega) (fun d hd => by rw [hmc]; exact d2.2 d (List.mem_of_mem_take hd))
      dsimp only at hrep
      rw [hw] at hrep
      refine ax_beg 1 rfl rfl ?_
      simp only [ax_ent, List.replicate, List.cons_append, List.nil_append, List.append_nil]
      refine kk_C_undo_0 _ _ _ _ _ ?_
      simp (disch := omega) only [bk_C_undo_0, e_cons, e_il, e_ll, e_al, e_lc0, e_lcs, e_ei, e_el, e_er, e_const, e_istore, e_lstore, e_astore, e_iinc, e_s1_0, e_s1_1, e_s1_2, e_s1_3, e_s1_4, e_s1_5, e_s1_6, e_s1_7, e_s1_8, e_s1_9, e_s1_10, e_s2_0, e_s2_1, e_s2_2, e_s2_3, e_s2_4, e_s2_5, e_s2_6, e_s2_7, e_s2_8, e_s2_9, e_s2_10, e_dln, e_dli, e_dlr, e_dll, e_b, e_bd, e_lb, e_lbd, e_lcmp, e_i2l, e_l2i, e_i2b, e_dupi, e_dupr, e_dup2, e_getf, e_at0, e_ats, e_putI, e_putL, e_putR, e_gets, e_alen, e_iald, e_iast, e_bast, e_aast, e_if1, e_if2, e_goto, e_sw, e_iret, e_zret, e_lret, e_vret, e_obji, List.set_cons_zero, List.set_cons_succ, List.set_nil, Option.toList, List.nil_append, List.cons_append, List.length_cons, List.length_nil, true_or, or_true, true_and, and_true, nd_fold, Nat.one_mul, ↓m_1, ↓m_2, ↓m_3, ↓m_4, ↓m_9, ↓m_1000, nm_ne, nm_ne', nm_inj, nm_lt, nm_le, nm_gt, nm_ge, nm_xor, nm_add, Nat.add_sub_cancel, not_true_eq_false, not_false_eq_true, na_inj, na_le, na_lt, na_add, na_mul, na_and, na_or, na_xor, na_shl, na_shr, na_sub, i_0, i_1, i_2, i_3, i_4, i_5, i_6, i_7, i_8, i_9, i_10, i_12, i_16, i_20, i_21, i_32, i_40, i_60, oq_2, oq_38]
      refine ⟨fun g => absurd g (by omega), fun _ => ⟨fun _ => ?_, fun g => absurd hn g⟩⟩
      refine kk_C_undo_17 _ _ _ _ _ ?_
      simp (disch := omega) only [bk_C_undo_17, e_cons, e_il, e_ll, e_al, e_lc0, e_lcs, e_ei, e_el, e_er, e_const, e_istore, e_lstore, e_astore, e_iinc, e_s1_0, e_s1_1, e_s1_2, e_s1_3, e_s1_4, e_s1_5, e_s1_6, e_s1_7, e_s1_8, e_s1_9, e_s1_10, e_s2_0, e_s2_1, e_s2_2, e_s2_3, e_s2_4, e_s2_5, e_s2_6, e_s2_7, e_s2_8, e_s2_9, e_s2_10, e_dln, e_dli, e_dlr, e_dll, e_b, e_bd, e_lb, e_lbd, e_lcmp, e_i2l, e_l2i, e_i2b, e_dupi, e_dupr, e_dup2, e_getf, e_at0, e_ats, e_putI, e_putL, e_putR, e_gets, e_alen, e_iald, e_iast, e_bast, e_aast, e_if1, e_if2, e_goto, e_sw, e_iret, e_zret, e_lret, e_vret, e_obji, List.set_cons_zero, List.set_cons_succ, List.set_nil, Option.toList, List.nil_append, List.cons_append, List.length_cons, List.length_nil, true_or, or_true, true_and, and_true, nd_fold, Nat.one_mul, ↓m_1, ↓m_2, ↓m_3, ↓m_4, ↓m_9, ↓m_1000, nm_ne, nm_ne', nm_inj, nm_lt, nm_le, nm_gt, nm_ge, nm_xor, nm_add, Nat.add_sub_cancel, not_true_eq_false, not_false_eq_true, na_inj, na_le, na_lt, na_add, na_mul, na_and, na_or, na_xor, na_shl, na_shr, na_sub, i_0, i_1, i_2, i_3, i_4, i_5, i_6, i_7, i_8, i_9, i_10, i_12, i_16, i_20, i_21, i_32, i_40, i_60, oq_2, oq_38, lay_dd]
      refine k_callV (show ax_get (lay xs s.rw s.tx s.rm s.rr s.nx s.mn s.ru s.nw s.ra (s.dd.1.take n, (s.dd.1.drop n).map nI ++ s.dd.2) s.k0 s.k1 s.k2 s.fc s.lf s.td s.tu s.tl τ) 2 = some (5, _) from rfl) (hrep _) rfl rfl rfl ?_
      simp (disch := omega) only [e_cons, e_il, e_ll, e_al, e_lc0, e_lcs, e_ei, e_el, e_er, e_const, e_istore, e_lstore, e_astore, e_iinc, e_s1_0, e_s1_1, e_s1_2, e_s1_3, e_s1_4, e_s1_5, e_s1_6, e_s1_7, e_s1_8, e_s1_9, e_s1_10, e_s2_0, e_s2_1, e_s2_2, e_s2_3, e_s2_4, e_s2_5, e_s2_6, e_s2_7, e_s2_8, e_s2_9, e_s2_10, e_dln, e_dli, e_dlr, e_dll, e_b, e_bd, e_lb, e_lbd, e_lcmp, e_i2l, e_l2i, e_i2b, e_dupi, e_dupr, e_dup2, e_getf, e_at0, e_ats, e_putI, e_putL, e_putR, e_gets, e_alen, e_iald, e_iast, e_bast, e_aast, e_if1, e_if2, e_goto, e_sw, e_iret, e_zret, e_lret, e_vret, e_obji, List.set_cons_zero, List.set_cons_succ, List.set_nil, Option.toList, List.nil_append, List.cons_append, List.length_cons, List.length_nil, true_or, or_true, true_and, and_true, nd_fold, Nat.one_mul, ↓m_1, ↓m_2, ↓m_3, ↓m_4, ↓m_9, ↓m_1000, nm_ne, nm_ne', nm_inj, nm_lt, nm_le, nm_gt, nm_ge, nm_xor, nm_add, Nat.add_sub_cancel, not_true_eq_false, not_false_eq_true, na_inj, na_le, na_lt, na_add, na_mul, na_and, na_or, na_xor, na_shl, na_shr, na_sub, i_0, i_1, i_2, i_3, i_4, i_5, i_6, i_7, i_8, i_9, i_10, i_12, i_16, i_20, i_21, i_32, i_40, i_60]
      all_goals first | exact ⟨rfl, rfl⟩ | exact rfl | exact trivial
    · refine ax_beg 1 rfl rfl ?_
      simp only [ax_ent, List.replicate, List.cons_append, List.nil_append, List.append_nil]
      refine kk_R_undo_0 _ _ _ _ _ ?_
      simp (disch := omega) only [bk_R_undo_0, e_cons, e_il, e_ll, e_al, e_lc0, e_lcs, e_ei, e_el, e_er, e_const, e_istore, e_lstore, e_astore, e_iinc, e_s1_0, e_s1_1, e_s1_2, e_s1_3, e_s1_4, e_s1_5, e_s1_6, e_s1_7, e_s1_8, e_s1_9, e_s1_10, e_s2_0, e_s2_1, e_s2_2, e_s2_3, e_s2_4, e_s2_5, e_s2_6, e_s2_7, e_s2_8, e_s2_9, e_s2_10, e_dln, e_dli, e_dlr, e_dll, e_b, e_bd, e_lb, e_lbd, e_lcmp, e_i2l, e_l2i, e_i2b, e_dupi, e_dupr, e_dup2, e_getf, e_at0, e_ats, e_putI, e_putL, e_putR, e_gets, e_alen, e_iald, e_iast, e_bast, e_aast, e_if1, e_if2, e_goto, e_sw, e_iret, e_zret, e_lret, e_vret, e_obji, List.set_cons_zero, List.set_cons_succ, List.set_nil, Option.toList, List.nil_append, List.cons_append, List.length_cons, List.length_nil, true_or, or_true, true_and, and_true, nd_fold, Nat.one_mul, ↓m_1, ↓m_2, ↓m_3, ↓m_4, ↓m_9, ↓m_1000, nm_ne, nm_ne', nm_inj, nm_lt, nm_le, nm_gt, nm_ge, nm_xor, nm_add, Nat.add_sub_cancel, not_true_eq_false, not_false_eq_true, na_inj, na_le, na_lt, na_add, na_mul, na_and, na_or, na_xor, na_shl, na_shr, na_sub, i_0, i_1, i_2, i_3, i_4, i_5, i_6, i_7, i_8, i_9, i_10, i_12, i_16, i_20, i_21, i_32, i_40, i_60, om_48]
      rw [d1]
      refine k_call (hin _) rfl rfl rfl ?_
      rw [decide_eq_true hx]
      simp (disch := omega) only [e_cons, e_il, e_ll, e_al, e_lc0, e_lcs, e_ei, e_el, e_er, e_const, e_istore, e_lstore, e_astore, e_iinc, e_s1_0, e_s1_1, e_s1_2, e_s1_3, e_s1_4, e_s1_5, e_s1_6, e_s1_7, e_s1_8, e_s1_9, e_s1_10, e_s2_0, e_s2_1, e_s2_2, e_s2_3, e_s2_4, e_s2_5, e_s2_6, e_s2_7, e_s2_8, e_s2_9, e_s2_10, e_dln, e_dli, e_dlr, e_dll, e_b, e_bd, e_lb, e_lbd, e_lcmp, e_i2l, e_l2i, e_i2b, e_dupi, e_dupr, e_dup2, e_getf, e_at0, e_ats, e_putI, e_putL, e_putR, e_gets, e_alen, e_iald, e_iast, e_bast, e_aast, e_if1, e_if2, e_goto, e_sw, e_iret, e_zret, e_lret, e_vret, e_obji, List.set_cons_zero, List.set_cons_succ, List.set_nil, Option.toList, List.nil_append, List.cons_append, List.length_cons, List.length_nil, true_or, or_true, true_and, and_true, nd_fold, Nat.one_mul, ↓m_1, ↓m_2, ↓m_3, ↓m_4, ↓m_9, ↓m_1000, nm_ne, nm_ne', nm_inj, nm_lt, nm_le, nm_gt, nm_ge, nm_xor, nm_add, Nat.add_sub_cancel, not_true_eq_false, not_false_eq_true, na_inj, na_le, na_lt, na_add, na_mul, na_and, na_or, na_xor, na_shl, na_shr, na_sub, i_0, i_1, i_2, i_3, i_4, i_5, i_6, i_7, i_8, i_9, i_10, i_12, i_16, i_20, i_21, i_32, i_40, i_60]
      refine ⟨fun _ => ?_, fun g => absurd (show ¬ nI 1 = nI 0 by decide) g⟩
      have hend : ∀ H, H = (mdl P m.RS m.RW m.TS m.TX m.mc m.K m.PC m.CU (if n < s.dd.1.length then cpn m.NW 0 m.BF (10 * n) 10 else m.NW) m.AS m.dp m.BF m.KP m.KT m.ak m.up m.lw m.fi m.FS m.he m.rch m.rmn m.RM m.RO m.BE m.WO) → ax_go mi_R_undo (fun v' H'' => v' = some (.int (nI (s.dd.1.length - n))) ∧ H'' = (mdl P m.RS m.RW m.TS m.TX m.mc m.K m.PC m.CU (if n < s.dd.1.length then cpn m.NW 0 m.BF (10 * n) 10 else m.NW) m.AS n m.BF m.KP m.KT m.ak m.up m.lw m.fi m.FS m.he m.rch m.rmn m.RM m.RO m.BE m.WO)) 45 (0, 0) [some (.ref 48), some (.int (nI n)), some (.int (nI (s.dd.1.length - n)))] [] H := by
        intro H e
        subst e
        refine kk_R_undo_45 _ _ _ _ _ ?_
        simp (disch := omega) only [bk_R_undo_45, e_cons, e_il, e_ll, e_al, e_lc0, e_lcs, e_ei, e_el, e_er, e_const, e_istore, e_lstore, e_astore, e_iinc, e_s1_0, e_s1_1, e_s1_2, e_s1_3, e_s1_4, e_s1_5, e_s1_6, e_s1_7, e_s1_8, e_s1_9, e_s1_10, e_s2_0, e_s2_1, e_s2_2, e_s2_3, e_s2_4, e_s2_5, e_s2_6, e_s2_7, e_s2_8, e_s2_9, e_s2_10, e_dln, e_dli, e_dlr, e_dll, e_b, e_bd, e_lb, e_lbd, e_lcmp, e_i2l, e_l2i, e_i2b, e_dupi, e_dupr, e_dup2, e_getf, e_at0, e_ats, e_putI, e_putL, e_putR, e_gets, e_alen, e_iald, e_iast, e_bast, e_aast, e_if1, e_if2, e_goto, e_sw, e_iret, e_zret, e_lret, e_vret, e_obji, List.set_cons_zero, List.set_cons_succ, List.set_nil, Option.toList, List.nil_append, List.cons_append, List.length_cons, List.length_nil, true_or, or_true, true_and, and_true, nd_fold, Nat.one_mul, ↓m_1, ↓m_2, ↓m_3, ↓m_4, ↓m_9, ↓m_1000, nm_ne, nm_ne', nm_inj, nm_lt, nm_le, nm_gt, nm_ge, nm_xor, nm_add, Nat.add_sub_cancel, not_true_eq_false, not_false_eq_true, na_inj, na_le, na_lt, na_add, na_mul, na_and, na_or, na_xor, na_shl, na_shr, na_sub, i_0, i_1, i_2, i_3, i_4, i_5, i_6, i_7, i_8, i_9, i_10, i_12, i_16, i_20, i_21, i_32, i_40, i_60, om_48, sm_48]
      refine kk_R_undo_16 _ _ _ _ _ ?_
      simp (disch := omega) only [bk_R_undo_16, e_cons, e_il, e_ll, e_al, e_lc0, e_lcs, e_ei, e_el, e_er, e_const, e_istore, e_lstore, e_astore, e_iinc, e_s1_0, e_s1_1, e_s1_2, e_s1_3, e_s1_4, e_s1_5, e_s1_6, e_s1_7, e_s1_8, e_s1_9, e_s1_10, e_s2_0, e_s2_1, e_s2_2, e_s2_3, e_s2_4, e_s2_5, e_s2_6, e_s2_7, e_s2_8, e_s2_9, e_s2_10, e_dln, e_dli, e_dlr, e_dll, e_b, e_bd, e_lb, e_lbd, e_lcmp, e_i2l, e_l2i, e_i2b, e_dupi, e_dupr, e_dup2, e_getf, e_at0, e_ats, e_putI, e_putL, e_putR, e_gets, e_alen, e_iald, e_iast, e_bast, e_aast, e_if1, e_if2, e_goto, e_sw, e_iret, e_zret, e_lret, e_vret, e_obji, List.set_cons_zero, List.set_cons_succ, List.set_nil, Option.toList, List.nil_append, List.cons_append, List.length_cons, List.length_nil, true_or, or_true, true_and, and_true, nd_fold, Nat.one_mul, ↓m_1, ↓m_2, ↓m_3, ↓m_4, ↓m_9, ↓m_1000, nm_ne, nm_ne', nm_inj, nm_lt, nm_le, nm_gt, nm_ge, nm_xor, nm_add, Nat.add_sub_cancel, not_true_eq_false, not_false_eq_true, na_inj, na_le, na_lt, na_add, na_mul, na_and, na_or, na_xor, na_shl, na_shr, na_sub, i_0, i_1, i_2, i_3, i_4, i_5, i_6, i_7, i_8, i_9, i_10, i_12, i_16, i_20, i_21, i_32, i_40, i_60, om_48]
      by_cases hlt : n < s.dd.1.length
      · refine ⟨fun g => absurd g (by first | (rw [na_sub hn, na_le (by omega) (by omega)]; omega) | omega), fun _ => ?_⟩
        refine k_call (c_R_copies (i := 10 * n) (j := 0) (n := 10) gm_58 gm_56 (by omega) (by rw [mdl_len]; omega) (by omega) (by omega) (by omega) (by omega)) rfl rfl rfl ?_
        rw [sm_56]
        simp (disch := omega) only [e_cons, e_il, e_ll, e_al, e_lc0, e_lcs, e_ei, e_el, e_er, e_const, e_istore, e_lstore, e_astore, e_iinc, e_s1_0, e_s1_1, e_s1_2, e_s1_3, e_s1_4, e_s1_5, e_s1_6, e_s1_7, e_s1_8, e_s1_9, e_s1_10, e_s2_0, e_s2_1, e_s2_2, e_s2_3, e_s2_4, e_s2_5, e_s2_6, e_s2_7, e_s2_8, e_s2_9, e_s2_10, e_dln, e_dli, e_dlr, e_dll, e_b, e_bd, e_lb, e_lbd, e_lcmp, e_i2l, e_l2i, e_i2b, e_dupi, e_dupr, e_dup2, e_getf, e_at0, e_ats, e_putI, e_putL, e_putR, e_gets, e_alen, e_iald, e_iast, e_bast, e_aast, e_if1, e_if2, e_goto, e_sw, e_iret, e_zret, e_lret, e_vret, e_obji, List.set_cons_zero, List.set_cons_succ, List.set_nil, Option.toList, List.nil_append, List.cons_append, List.length_cons, List.length_nil, true_or, or_true, true_and, and_true, nd_fold, Nat.one_mul, ↓m_1, ↓m_2, ↓m_3, ↓m_4, ↓m_9, ↓m_1000, nm_ne, nm_ne', nm_inj, nm_lt, nm_le, nm_gt, nm_ge, nm_xor, nm_add, Nat.add_sub_cancel, not_true_eq_false, not_false_eq_true, na_inj, na_le, na_lt, na_add, na_mul, na_and, na_or, na_xor, na_shl, na_shr, na_sub, i_0, i_1, i_2, i_3, i_4, i_5, i_6, i_7, i_8, i_9, i_10, i_12, i_16, i_20, i_21, i_32, i_40, i_60]
        exact hend _ (by rw [if_pos hlt, d1])
      · have e : s.dd.1.length - n = 0 := by omega
        refine ⟨fun _ => hend _ (by rw [if_neg hlt, d1]), fun g => absurd (by first | (rw [na_sub hn, na_le (by omega) (by omega)]; omega) | omega) g⟩
  · refine ⟨(nm 1), s, m, fun xs τ => ?_, fun P => ?_, h⟩
    · refine ax_beg 1 rfl rfl ?_
      simp only [ax_ent, List.replicate, List.cons_append, List.nil_append, List.append_nil]
      refine kk_C_undo_0 _ _ _ _ _ ?_
      simp (disch := omega) only [bk_C_undo_0, e_cons, e_il, e_ll, e_al, e_lc0, e_lcs, e_ei, e_el, e_er, e_const, e_istore, e_lstore, e_astore, e_iinc, e_s1_0, e_s1_1, e_s1_2, e_s1_3, e_s1_4, e_s1_5, e_s1_6, e_s1_7, e_s1_8, e_s1_9, e_s1_10, e_s2_0, e_s2_1, e_s2_2, e_s2_3, e_s2_4, e_s2_5, e_s2_6, e_s2_7, e_s2_8, e_s2_9, e_s2_10, e_dln, e_dli, e_dlr, e_dll, e_b, e_bd, e_lb, e_lbd, e_lcmp, e_i2l, e_l2i, e_i2b, e_dupi, e_dupr, e_dup2, e_getf, e_at0, e_ats, e_putI, e_putL, e_putR, e_gets, e_alen, e_iald, e_iast, e_bast, e_aast, e_if1, e_if2, e_goto, e_sw, e_iret, e_zret, e_lret, e_vret, e_obji, List.set_cons_zero, List.set_cons_succ, List.set_nil, Option.toList, List.nil_append, List.cons_append, List.length_cons, List.length_nil, true_or, or_true, true_and, and_true, nd_fold, Nat.one_mul, ↓m_1, ↓m_2, ↓m_3, ↓m_4, ↓m_9, ↓m_1000, nm_ne, nm_ne', nm_inj, nm_lt, nm_le, nm_gt, nm_ge, nm_xor, nm_add, Nat.add_sub_cancel, not_true_eq_false, not_false_eq_true, na_inj, na_le, na_lt, na_add, na_mul, na_and, na_or, na_xor, na_shl, na_shr, na_sub, i_0, i_1, i_2, i_3, i_4, i_5, i_6, i_7, i_8, i_9, i_10, i_12, i_16, i_20, i_21, i_32, i_40, i_60, oq_2, oq_38, e0, e1]
      refine ⟨fun _ => ?_, fun g1 => ⟨fun g2 => absurd (show 0 ≤ x.toInt ∧ x.toInt ≤ (s.dd.1.length : Int) by omega) hx, fun _ => ?_⟩⟩
      · refine kk_C_undo_15 _ _ _ _ _ ?_
        simp (disch := omega) only [bk_C_undo_15, e_cons, e_il, e_ll, e_al, e_lc0, e_lcs, e_ei, e_el, e_er, e_const, e_istore, e_lstore, e_astore, e_iinc, e_s1_0, e_s1_1, e_s1_2, e_s1_3, e_s1_4, e_s1_5, e_s1_6, e_s1_7, e_s1_8, e_s1_9, e_s1_10, e_s2_0, e_s2_1, e_s2_2, e_s2_3, e_s2_4, e_s2_5, e_s2_6, e_s2_7, e_s2_8, e_s2_9, e_s2_10, e_dln, e_dli, e_dlr, e_dll, e_b, e_bd, e_lb, e_lbd, e_lcmp, e_i2l, e_l2i, e_i2b, e_dupi, e_dupr, e_dup2, e_getf, e_at0, e_ats, e_putI, e_putL, e_putR, e_gets, e_alen, e_iald, e_iast, e_bast, e_aast, e_if1, e_if2, e_goto, e_sw, e_iret, e_zret, e_lret, e_vret, e_obji, List.set_cons_zero, List.set_cons_succ, List.set_nil, Option.toList, List.nil_append, List.cons_append, List.length_cons, List.length_nil, true_or, or_true, true_and, and_true, nd_fold, Nat.one_mul, ↓m_1, ↓m_2, ↓m_3, ↓m_4, ↓m_9, ↓m_1000, nm_ne, nm_ne', nm_inj, nm_lt, nm_le, nm_gt, nm_ge, nm_xor, nm_add, Nat.add_sub_cancel, not_true_eq_false, not_false_eq_true, na_inj, na_le, na_lt, na_add, na_mul, na_and, na_or, na_xor, na_shl, na_shr, na_sub, i_0, i_1, i_2, i_3, i_4, i_5, i_6, i_7, i_8, i_9, i_10, i_12, i_16, i_20, i_21, i_32, i_40, i_60]
      · refine kk_C_undo_15 _ _ _ _ _ ?_
        simp (disch := omega) only [bk_C_undo_15, e_cons, e_il, e_ll, e_al, e_lc0, e_lcs, e_ei, e_el, e_er, e_const, e_istore, e_lstore, e_astore, e_iinc, e_s1_0, e_s1_1, e_s1_2, e_s1_3, e_s1_4, e_s1_5, e_s1_6, e_s1_7, e_s1_8, e_s1_9, e_s1_10, e_s2_0, e_s2_1, e_s2_2, e_s2_3, e_s2_4, e_s2_5, e_s2_6, e_s2_7, e_s2_8, e_s2_9, e_s2_10, e_dln, e_dli, e_dlr, e_dll, e_b, e_bd, e_lb, e_lbd, e_lcmp, e_i2l, e_l2i, e_i2b, e_dupi, e_dupr, e_dup2, e_getf, e_at0, e_ats, e_putI, e_putL, e_putR, e_gets, e_alen, e_iald, e_iast, e_bast, e_aast, e_if1, e_if2, e_goto, e_sw, e_iret, e_zret, e_lret, e_vret, e_obji, List.set_cons_zero, List.set_cons_succ, List.set_nil, Option.toList, List.nil_append, List.cons_append, List.length_cons, List.length_nil, true_or, or_true, true_and, and_true, nd_fold, Nat.one_mul, ↓m_1, ↓m_2, ↓m_3, ↓m_4, ↓m_9, ↓m_1000, nm_ne, nm_ne', nm_inj, nm_lt, nm_le, nm_gt, nm_ge, nm_xor, nm_add, Nat.add_sub_cancel, not_true_eq_false, not_false_eq_true, na_inj, na_le, na_lt, na_add, na_mul, na_and, na_or, na_xor, na_shl, na_shr, na_sub, i_0, i_1, i_2, i_3, i_4, i_5, i_6, i_7, i_8, i_9, i_10, i_12, i_16, i_20, i_21, i_32, i_40, i_60]
    · refine ax_beg 1 rfl rfl ?_
      simp only [ax_ent, List.replicate, List.cons_append, List.nil_append, List.append_nil]
      refine kk_R_undo_0 _ _ _ _ _ ?_
      simp (disch := omega) only [bk_R_undo_0, e_cons, e_il, e_ll, e_al, e_lc0, e_lcs, e_ei, e_el, e_er, e_const, e_istore, e_lstore, e_astore, e_iinc, e_s1_0, e_s1_1, e_s1_2, e_s1_3, e_s1_4, e_s1_5, e_s1_6, e_s1_7, e_s1_8, e_s1_9, e_s1_10, e_s2_0, e_s2_1, e_s2_2, e_s2_3, e_s2_4, e_s2_5, e_s2_6, e_s2_7, e_s2_8, e_s2_9, e_s2_10, e_dln, e_dli, e_dlr, e_dll, e_b, e_bd, e_lb, e_lbd, e_lcmp, e_i2l, e_l2i, e_i2b, e_dupi, e_dupr, e_dup2, e_getf, e_at0, e_ats, e_putI, e_putL, e_putR, e_gets, e_alen, e_iald, e_iast, e_bast, e_aast, e_if1, e_if2, e_goto, e_sw, e_iret, e_zret, e_lret, e_vret, e_obji, List.set_cons_zero, List.set_cons_succ, List.set_nil, Option.toList, List.nil_append, List.cons_append, List.length_cons, List.length_nil, true_or, or_true, true_and, and_true, nd_fold, Nat.one_mul, ↓m_1, ↓m_2, ↓m_3, ↓m_4, ↓m_9, ↓m_1000, nm_ne, nm_ne', nm_inj, nm_lt, nm_le, nm_gt, nm_ge, nm_xor, nm_add, Nat.add_sub_cancel, not_true_eq_false, not_false_eq_true, na_inj, na_le, na_lt, na_add, na_mul, na_and, na_or, na_xor, na_shl, na_shr, na_sub, i_0, i_1, i_2, i_3, i_4, i_5, i_6, i_7, i_8, i_9, i_10, i_12, i_16, i_20, i_21, i_32, i_40, i_60, om_48]
      rw [d1]
      refine k_call (hin _) rfl rfl rfl ?_
      rw [decide_eq_false hx]
      simp (disch := omega) only [e_cons, e_il, e_ll, e_al, e_lc0, e_lcs, e_ei, e_el, e_er, e_const, e_istore, e_lstore, e_astore, e_iinc, e_s1_0, e_s1_1, e_s1_2, e_s1_3, e_s1_4, e_s1_5, e_s1_6, e_s1_7, e_s1_8, e_s1_9, e_s1_10, e_s2_0, e_s2_1, e_s2_2, e_s2_3, e_s2_4, e_s2_5, e_s2_6, e_s2_7, e_s2_8, e_s2_9, e_s2_10, e_dln, e_dli, e_dlr, e_dll, e_b, e_bd, e_lb, e_lbd, e_lcmp, e_i2l, e_l2i, e_i2b, e_dupi, e_dupr, e_dup2, e_getf, e_at0, e_ats, e_putI, e_putL, e_putR, e_gets, e_alen, e_iald, e_iast, e_bast, e_aast, e_if1, e_if2, e_goto, e_sw, e_iret, e_zret, e_lret, e_vret, e_obji, List.set_cons_zero, List.set_cons_succ, List.set_nil, Option.toList, List.nil_append, List.cons_append, List.length_cons, List.length_nil, true_or, or_true, true_and, and_true, nd_fold, Nat.one_mul, ↓m_1, ↓m_2, ↓m_3, ↓m_4, ↓m_9, ↓m_1000, nm_ne, nm_ne', nm_inj, nm_lt, nm_le, nm_gt, nm_ge, nm_xor, nm_add, Nat.add_sub_cancel, not_true_eq_false, not_false_eq_true, na_inj, na_le, na_lt, na_add, na_mul, na_and, na_or, na_xor, na_shl, na_shr, na_sub, i_0, i_1, i_2, i_3, i_4, i_5, i_6, i_7, i_8, i_9, i_10, i_12, i_16, i_20, i_21, i_32, i_40, i_60]
      refine ⟨fun g => absurd rfl g, fun _ => ?_⟩
      simp (disch := omega) only [e_cons, e_il, e_ll, e_al, e_lc0, e_lcs, e_ei, e_el, e_er, e_const, e_istore, e_lstore, e_astore, e_iinc, e_s1_0, e_s1_1, e_s1_2, e_s1_3, e_s1_4, e_s1_5, e_s1_6, e_s1_7, e_s1_8, e_s1_9, e_s1_10, e_s2_0, e_s2_1, e_s2_2, e_s2_3, e_s2_4, e_s2_5, e_s2_6, e_s2_7, e_s2_8, e_s2_9, e_s2_10, e_dln, e_dli, e_dlr, e_dll, e_b, e_bd, e_lb, e_lbd, e_lcmp, e_i2l, e_l2i, e_i2b, e_dupi, e_dupr, e_dup2, e_getf, e_at0, e_ats, e_putI, e_putL, e_putR, e_gets, e_alen, e_iald, e_iast, e_bast, e_aast, e_if1, e_if2, e_goto, e_sw, e_iret, e_zret, e_lret, e_vret, e_obji, List.set_cons_zero, List.set_cons_succ, List.set_nil, Option.toList, List.nil_append, List.cons_append, List.length_cons, List.length_nil, true_or, or_true, true_and, and_true, nd_fold, Nat.one_mul, ↓m_1, ↓m_2, ↓m_3, ↓m_4, ↓m_9, ↓m_1000, nm_ne, nm_ne', nm_inj, nm_lt, nm_le, nm_gt, nm_ge, nm_xor, nm_add, Nat.add_sub_cancel, not_true_eq_false, not_false_eq_true, na_inj, na_le, na_lt, na_add, na_mul, na_and, na_or, na_xor, na_shl, na_shr, na_sub, i_0, i_1, i_2, i_3, i_4, i_5, i_6, i_7, i_8, i_9, i_10, i_12, i_16, i_20, i_21, i_32, i_40, i_60]
