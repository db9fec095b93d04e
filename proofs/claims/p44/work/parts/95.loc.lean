/-! the law's locals, literals -/
section LO
variable {v : Value} {t : ax_L} {l0 l1 l2 l3 l4 l5 l6 l7 l8 l9 l10 l11 l12 l13 l14 l15 l16 l17 l18 l19 l20 l21 l22 l23 l24 l25 : Option Value}
theorem e_s1_11 : ax_s1 (l0 :: l1 :: l2 :: l3 :: l4 :: l5 :: l6 :: l7 :: l8 :: l9 :: l10 :: l11 :: t) 11 v = l0 :: l1 :: l2 :: l3 :: l4 :: l5 :: l6 :: l7 :: l8 :: l9 :: ax_dl l10 :: some v :: t := rfl
theorem e_s1_12 : ax_s1 (l0 :: l1 :: l2 :: l3 :: l4 :: l5 :: l6 :: l7 :: l8 :: l9 :: l10 :: l11 :: l12 :: t) 12 v = l0 :: l1 :: l2 :: l3 :: l4 :: l5 :: l6 :: l7 :: l8 :: l9 :: l10 :: ax_dl l11 :: some v :: t := rfl
theorem e_s1_13 : ax_s1 (l0 :: l1 :: l2 :: l3 :: l4 :: l5 :: l6 :: l7 :: l8 :: l9 :: l10 :: l11 :: l12 :: l13 :: t) 13 v = l0 :: l1 :: l2 :: l3 :: l4 :: l5 :: l6 :: l7 :: l8 :: l9 :: l10 :: l11 :: ax_dl l12 :: some v :: t := rfl
theorem e_s1_14 : ax_s1 (l0 :: l1 :: l2 :: l3 :: l4 :: l5 :: l6 :: l7 :: l8 :: l9 :: l10 :: l11 :: l12 :: l13 :: l14 :: t) 14 v = l0 :: l1 :: l2 :: l3 :: l4 :: l5 :: l6 :: l7 :: l8 :: l9 :: l10 :: l11 :: l12 :: ax_dl l13 :: some v :: t := rfl
theorem e_s1_15 : ax_s1 (l0 :: l1 :: l2 :: l3 :: l4 :: l5 :: l6 :: l7 :: l8 :: l9 :: l10 :: l11 :: l12 :: l13 :: l14 :: l15 :: t) 15 v = l0 :: l1 :: l2 :: l3 :: l4 :: l5 :: l6 :: l7 :: l8 :: l9 :: l10 :: l11 :: l12 :: l13 :: ax_dl l14 :: some v :: t := rfl
theorem e_s1_16 : ax_s1 (l0 :: l1 :: l2 :: l3 :: l4 :: l5 :: l6 :: l7 :: l8 :: l9 :: l10 :: l11 :: l12 :: l13 :: l14 :: l15 :: l16 :: t) 16 v = l0 :: l1 :: l2 :: l3 :: l4 :: l5 :: l6 :: l7 :: l8 :: l9 :: l10 :: l11 :: l12 :: l13 :: l14 :: ax_dl l15 :: some v :: t := rfl
theorem e_s1_17 : ax_s1 (l0 :: l1 :: l2 :: l3 :: l4 :: l5 :: l6 :: l7 :: l8 :: l9 :: l10 :: l11 :: l12 :: l13 :: l14 :: l15 :: l16 :: l17 :: t) 17 v = l0 :: l1 :: l2 :: l3 :: l4 :: l5 :: l6 :: l7 :: l8 :: l9 :: l10 :: l11 :: l12 :: l13 :: l14 :: l15 :: ax_dl l16 :: some v :: t := rfl
theorem e_s1_18 : ax_s1 (l0 :: l1 :: l2 :: l3 :: l4 :: l5 :: l6 :: l7 :: l8 :: l9 :: l10 :: l11 :: l12 :: l13 :: l14 :: l15 :: l16 :: l17 :: l18 :: t) 18 v = l0 :: l1 :: l2 :: l3 :: l4 :: l5 :: l6 :: l7 :: l8 :: l9 :: l10 :: l11 :: l12 :: l13 :: l14 :: l15 :: l16 :: ax_dl l17 :: some v :: t := rfl
theorem e_s1_19 : ax_s1 (l0 :: l1 :: l2 :: l3 :: l4 :: l5 :: l6 :: l7 :: l8 :: l9 :: l10 :: l11 :: l12 :: l13 :: l14 :: l15 :: l16 :: l17 :: l18 :: l19 :: t) 19 v = l0 :: l1 :: l2 :: l3 :: l4 :: l5 :: l6 :: l7 :: l8 :: l9 :: l10 :: l11 :: l12 :: l13 :: l14 :: l15 :: l16 :: l17 :: ax_dl l18 :: some v :: t := rfl
theorem e_s1_20 : ax_s1 (l0 :: l1 :: l2 :: l3 :: l4 :: l5 :: l6 :: l7 :: l8 :: l9 :: l10 :: l11 :: l12 :: l13 :: l14 :: l15 :: l16 :: l17 :: l18 :: l19 :: l20 :: t) 20 v = l0 :: l1 :: l2 :: l3 :: l4 :: l5 :: l6 :: l7 :: l8 :: l9 :: l10 :: l11 :: l12 :: l13 :: l14 :: l15 :: l16 :: l17 :: l18 :: ax_dl l19 :: some v :: t := rfl
theorem e_s1_21 : ax_s1 (l0 :: l1 :: l2 :: l3 :: l4 :: l5 :: l6 :: l7 :: l8 :: l9 :: l10 :: l11 :: l12 :: l13 :: l14 :: l15 :: l16 :: l17 :: l18 :: l19 :: l20 :: l21 :: t) 21 v = l0 :: l1 :: l2 :: l3 :: l4 :: l5 :: l6 :: l7 :: l8 :: l9 :: l10 :: l11 :: l12 :: l13 :: l14 :: l15 :: l16 :: l17 :: l18 :: l19 :: ax_dl l20 :: some v :: t := rfl
theorem e_s1_22 : ax_s1 (l0 :: l1 :: l2 :: l3 :: l4 :: l5 :: l6 :: l7 :: l8 :: l9 :: l10 :: l11 :: l12 :: l13 :: l14 :: l15 :: l16 :: l17 :: l18 :: l19 :: l20 :: l21 :: l22 :: t) 22 v = l0 :: l1 :: l2 :: l3 :: l4 :: l5 :: l6 :: l7 :: l8 :: l9 :: l10 :: l11 :: l12 :: l13 :: l14 :: l15 :: l16 :: l17 :: l18 :: l19 :: l20 :: ax_dl l21 :: some v :: t := rfl
theorem e_s1_23 : ax_s1 (l0 :: l1 :: l2 :: l3 :: l4 :: l5 :: l6 :: l7 :: l8 :: l9 :: l10 :: l11 :: l12 :: l13 :: l14 :: l15 :: l16 :: l17 :: l18 :: l19 :: l20 :: l21 :: l22 :: l23 :: t) 23 v = l0 :: l1 :: l2 :: l3 :: l4 :: l5 :: l6 :: l7 :: l8 :: l9 :: l10 :: l11 :: l12 :: l13 :: l14 :: l15 :: l16 :: l17 :: l18 :: l19 :: l20 :: l21 :: ax_dl l22 :: some v :: t := rfl
theorem e_s1_24 : ax_s1 (l0 :: l1 :: l2 :: l3 :: l4 :: l5 :: l6 :: l7 :: l8 :: l9 :: l10 :: l11 :: l12 :: l13 :: l14 :: l15 :: l16 :: l17 :: l18 :: l19 :: l20 :: l21 :: l22 :: l23 :: l24 :: t) 24 v = l0 :: l1 :: l2 :: l3 :: l4 :: l5 :: l6 :: l7 :: l8 :: l9 :: l10 :: l11 :: l12 :: l13 :: l14 :: l15 :: l16 :: l17 :: l18 :: l19 :: l20 :: l21 :: l22 :: ax_dl l23 :: some v :: t := rfl
theorem e_s1_25 : ax_s1 (l0 :: l1 :: l2 :: l3 :: l4 :: l5 :: l6 :: l7 :: l8 :: l9 :: l10 :: l11 :: l12 :: l13 :: l14 :: l15 :: l16 :: l17 :: l18 :: l19 :: l20 :: l21 :: l22 :: l23 :: l24 :: l25 :: t) 25 v = l0 :: l1 :: l2 :: l3 :: l4 :: l5 :: l6 :: l7 :: l8 :: l9 :: l10 :: l11 :: l12 :: l13 :: l14 :: l15 :: l16 :: l17 :: l18 :: l19 :: l20 :: l21 :: l22 :: l23 :: ax_dl l24 :: some v :: t := rfl
theorem e_s2_17 : ax_s2 (l0 :: l1 :: l2 :: l3 :: l4 :: l5 :: l6 :: l7 :: l8 :: l9 :: l10 :: l11 :: l12 :: l13 :: l14 :: l15 :: l16 :: l17 :: l18 :: t) 17 v = l0 :: l1 :: l2 :: l3 :: l4 :: l5 :: l6 :: l7 :: l8 :: l9 :: l10 :: l11 :: l12 :: l13 :: l14 :: l15 :: ax_dl l16 :: some v :: none :: t := by rfl
end LO
theorem i_26 : (26 : Int32) = nI 26 := by decide +kernel
theorem i_36 : (36 : Int32) = nI 36 := by decide +kernel
theorem i_37 : (37 : Int32) = nI 37 := by decide +kernel
theorem i_38 : (38 : Int32) = nI 38 := by decide +kernel
theorem i_39 : (39 : Int32) = nI 39 := by decide +kernel
theorem i_49 : (49 : Int32) = nI 49 := by decide +kernel
theorem i_50 : (50 : Int32) = nI 50 := by decide +kernel
theorem i_51 : (51 : Int32) = nI 51 := by decide +kernel
theorem i_52 : (52 : Int32) = nI 52 := by decide +kernel
theorem i_53 : (53 : Int32) = nI 53 := by decide +kernel
theorem i_63 : (63 : Int32) = nI 63 := by decide +kernel
theorem i_99 : (99 : Int32) = nI 99 := by decide +kernel
theorem i_255 : (255 : Int32) = nI 255 := by decide +kernel
theorem i_99999 : (99999 : Int32) = nI 99999 := by decide +kernel
theorem i_2097152 : (2097152 : Int32) = nI 2097152 := by decide +kernel
theorem m_99 : (-99 : Int32) = nm 99 := by decide +kernel
section TC
variable {s : cS} {m : mS} {xs : List Value} {τ : ax_H} {x : Int32} {i q n l : Nat}
theorem t_c0 (h : Rel s m) : ax_ev mi_C_count [.ref 2, .int (nI 0)] (hp xs (ctl x s) τ) (some (.int (nI m.mc))) (hp xs (ctl x s) τ) := by
  have g := w_count (xs := xs) (τ := τ) (rel_tl (x := x) h) 0 (by omega)
  rw [show mcn (ctl x s) 0 = m.mc from rel_mc h] at g
  exact g
theorem t_c1 (h : Rel s m) : ax_ev mi_C_count [.ref 2, .int (nI 1)] (hp xs (ctl x s) τ) (some (.int (nI s.nw.2.2.2.2.1))) (hp xs (ctl x s) τ) := by
  have g := w_count (xs := xs) (τ := τ) (rel_tl (x := x) h) 1 (by omega)
  exact g
theorem t_c2 (h : Rel s m) : ax_ev mi_C_count [.ref 2, .int (nI 2)] (hp xs (ctl x s) τ) (some (.int (nI s.dd.1.length))) (hp xs (ctl x s) τ) := by
  have g := w_count (xs := xs) (τ := τ) (rel_tl (x := x) h) 2 (by omega)
  exact g
theorem t_c3 (h : Rel s m) : ax_ev mi_C_count [.ref 2, .int (nI 3)] (hp xs (ctl x s) τ) (some (.int (nI s.nw.2.1))) (hp xs (ctl x s) τ) := by
  have g := w_count (xs := xs) (τ := τ) (rel_tl (x := x) h) 3 (by omega)
  exact g
theorem t_c4 (h : Rel s m) : ax_ev mi_C_count [.ref 2, .int (nI 4)] (hp xs (ctl x s) τ) (some (.int (nI s.nw.2.2.1))) (hp xs (ctl x s) τ) := by
  have g := w_count (xs := xs) (τ := τ) (rel_tl (x := x) h) 4 (by omega)
  exact g
theorem t_c5 (h : Rel s m) : ax_ev mi_C_count [.ref 2, .int (nI 5)] (hp xs (ctl x s) τ) (some (.int (nI s.nw.2.2.2.2.2.1))) (hp xs (ctl x s) τ) := by
  have g := w_count (xs := xs) (τ := τ) (rel_tl (x := x) h) 5 (by omega)
  exact g
theorem t_c10 (h : Rel s m) : ax_ev mi_C_count [.ref 2, .int (nI 10)] (hp xs (ctl x s) τ) (some (.int (nI (bz s.k0.1 + bz s.k1.1 + bz s.k2.1)))) (hp xs (ctl x s) τ) := by
  have g := w_count (xs := xs) (τ := τ) (rel_tl (x := x) h) 10 (by omega)
  exact g
theorem t_t1 (h : Rel s m) (hi : i < m.mc) : ax_ev mi_L_told [.ref 2, .int (nI i), .int (nI 1)] (hp xs (ctl x s) τ) (some (.int (nI (s.nw.1.getD i 0)))) (hp xs (ctl (nI (s.nw.1.getD i 0)) s) τ) := c_L_told (rel_tl (x := x) h) hi (by omega)
theorem t_t4 (h : Rel s m) (hi : i < m.mc) : ax_ev mi_L_told [.ref 2, .int (nI i), .int (nI 4)] (hp xs (ctl x s) τ) (some (.int (nI (bz (s.nw.2.1.testBit i))))) (hp xs (ctl (nI (bz (s.nw.2.1.testBit i))) s) τ) := c_L_told (rel_tl (x := x) h) hi (by omega)
theorem t_t5 (h : Rel s m) (hi : i < m.mc) : ax_ev mi_L_told [.ref 2, .int (nI i), .int (nI 5)] (hp xs (ctl x s) τ) (some (.int (nI (ms_str (s.mn.1.getD i 0) (s.mn.2.1.getD i 0) (s.nw.1.getD i 0) s.nw.2.2.1)))) (hp xs (ctl (nI (ms_str (s.mn.1.getD i 0) (s.mn.2.1.getD i 0) (s.nw.1.getD i 0) s.nw.2.2.1)) s) τ) := c_L_told (rel_tl (x := x) h) hi (by omega)
theorem t_dg (h : Rel s m) : ax_ev mi_C_digest [.ref 2] (hp xs (ctl x s) τ) (some (.long (dgE s m.mc))) (hp xs (ctl x s) τ) := by
  have g := w_digest (xs := xs) (τ := τ) (rel_tl (x := x) h)
  rw [svr_dg (svr_ctl (s := s) (x := x))] at g
  exact g
theorem t_ask : ax_ev mi_C_asked [.ref 2] (hp xs (ctl x s) τ) (some (.int x)) (hp xs (ctl x s) τ) := w_asked
theorem t_bar (h : Rel s m) (h0 : m.mc ≠ 0) (hd : s.dd.1.length < 40) : ax_ev mi_C_bar [.ref 2] (hp xs (ctl x s) τ) (some (.int (nI (s.nw.2.2.2.2.1 + 1)))) (hp xs (ctl x (actS 0 s)) τ) := w_bar (rel_tl (x := x) h) h0 hd
theorem t_stop (h : Rel s m) (h0 : m.mc ≠ 0) (hd : s.dd.1.length < 40) : ax_ev mi_C_stop [.ref 2] (hp xs (ctl x s) τ) (some (.int (nI (ms_pop (actS 1 s).nw.2.1)))) (hp xs (ctl x (actS 1 s)) τ) := w_stop (rel_tl (x := x) h) h0 hd
theorem t_takeN (h : Rel s m) (hq : q < 8) (hs : s.nw.2.2.1.testBit q = false ∨ ¬ 1 < ms_pop s.nw.2.2.1) : ax_ev mi_C_take [.ref 2, .int (nI q)] (hp xs (ctl x s) τ) (some (.int (nm 4))) (hp xs (ctl x s) τ) := w_takeN (rel_tl (x := x) h) hq hs
theorem t_takeY (h : Rel s m) (hq : q < 8) (hb : s.nw.2.2.1.testBit q = true) (hpp : 1 < ms_pop s.nw.2.2.1) (hd : s.dd.1.length < 40) : ax_ev mi_C_take [.ref 2, .int (nI q)] (hp xs (ctl x s) τ) (some (.int (nI (ms_pop (actS (2 + q) s).nw.2.2.1)))) (hp xs (ctl x (actS (2 + q) s)) τ) := w_takeY (rel_tl (x := x) h) hq hb hpp hd
theorem t_nudgeN (h : Rel s m) (hq : q < m.mc) (hb : s.nw.2.1.testBit q = false) : ax_ev mi_C_nudge [.ref 2, .int (nI q)] (hp xs (ctl x s) τ) (some (.int (nm 4))) (hp xs (ctl x s) τ) := w_nudgeN (rel_tl (x := x) h) hq hb
theorem t_nudgeY (h : Rel s m) (hq : q < m.mc) (hb : s.nw.2.1.testBit q = true) (hd : s.dd.1.length < 40) : ax_ev mi_C_nudge [.ref 2, .int (nI q)] (hp xs (ctl x s) τ) (some (.int (nI ((actS (10 + q) s).nw.1.getD q 0)))) (hp xs (ctl x (actS (10 + q) s)) τ) := w_nudgeY (rel_tl (x := x) h) hq hb hd
theorem t_undo (h : Rel s m) (hn : n ≤ s.dd.1.length) : ax_ev mi_C_undo [.ref 2, .int (nI n)] (hp xs (ctl x s) τ) (some (.int (nI (s.dd.1.length - n)))) (hp xs (ctl x (unS n s)) τ) := w_undo (rel_tl (x := x) h) hn
theorem asS_ctl {y : Int32} {c : Nat} : ctl y (asS n c (ctl x s)) = ctl y (asS n c s) := Eq.trans (b := (s.rw, s.tx, s.rm, s.rr, s.nx, s.mn, s.ru, s.nw, casd s.mn s.nw n c, s.dd, s.k0, s.k1, s.k2, s.fc, s.lf, y, s.tu, s.tl)) rfl rfl
theorem ctl_ch : (ctl x s).nw.2.2.1 = s.nw.2.2.1 := rfl
theorem t_sits (h : Rel s m) (h0 : m.mc ≠ 0) (hn : n < 21) : ax_ev mi_C_sits [.ref 2, .int (nI n)] (hp xs (ctl x s) τ) (some (.int (nI (inN s n)))) (hp xs (ctl (nI (tkN s n)) (asS n s.nw.2.2.1 s)) τ) := by
  have g := w_sits (xs := xs) (τ := τ) (rel_tl (x := x) h) h0 hn
  rw [sv_inN (svr_ctl (s := s) (x := x)).1, sv_tkN (svr_ctl (s := s) (x := x)).1, ctl_ch, asS_ctl] at g
  exact g
theorem lot_ctl {mc : Nat} : ∀ {z l : Nat} {s : cS}, lotS mc z l (ctl x s) = ctl x (lotS mc z l s)
  | 0, _, _ => rfl
  | z + 1, l, s => lot_ctl (mc := mc) (z := z) (l := lnx l) (s := actS (mlt s mc (lnx l)) s)
theorem t_lots (h : Rel s m) (h0 : m.mc ≠ 0) (hn : 1 ≤ n) (hn2 : n ≤ 20) (hl : 1 ≤ l) (hl2 : l < 2147483647) (hd : s.dd.1.length + n ≤ 40) : ax_ev mi_C_lots [.ref 2, .int (nI n), .int (nI l)] (hp xs (ctl x s) τ) (some (.int (nI (ms_pop (lotS m.mc n l s).nw.2.1)))) (hp xs (ctl x (lotS m.mc n l s)) τ) := by
  have g := w_lots (xs := xs) (τ := τ) (rel_tl (x := x) h) h0 hn hn2 hl hl2 hd
  rw [lot_ctl] at g
  exact g
end TC
