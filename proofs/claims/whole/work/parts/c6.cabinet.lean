/-! cabinet: numbers -/
def csf (f : Nat → Nat) : Nat → List Nat → List Nat
  | 0, L => L
  | i + 1, L => (csf f i L).set i (f i)
theorem csf_len {f : Nat → Nat} {L : List Nat} : ∀ {i : Nat}, (csf f i L).length = L.length
  | 0 => rfl
  | i + 1 => by unfold csf; rw [List.length_set]; exact csf_len
theorem csf_at {f : Nat → Nat} {L : List Nat} {j : Nat} : ∀ {i : Nat}, i ≤ L.length → (csf f i L).getD j 0 = if j < i then f j else L.getD j 0
  | 0, _ => by rw [if_neg (by omega)]; rfl
  | i + 1, h => by
    unfold csf
    rw [gs (by rw [csf_len]; omega), csf_at (by omega)]
    by_cases e : j = i
    · subst e
      rw [if_pos rfl, if_pos (by omega)]
    · rw [if_neg e]
      by_cases e2 : j < i
      · rw [if_pos e2, if_pos (by omega)]
      · rw [if_neg e2, if_neg (by omega)]
def cNW (RM NW : List Nat) (M ch : Nat) : List Nat := ((csf (fun i => RM.getD (4 * i + 1) 0) M (csf (fun _ => 0) 10 NW)).set 6 (2 ^ M - 1)).set 7 ch
theorem cNW_eq {RM NW ps : List Nat} {M ch : Nat} (hN : NW.length = 10) (hM : M ≤ 6) (hp : ps.length = M) (hi : ∀ j, j < M → RM.getD (4 * j + 1) 0 = ps.getD j 0) : cNW RM NW M ch = mT ps (List.replicate (6 - M) 0) (2 ^ M - 1) ch 0 0 := by
  have hl : (csf (fun i => RM.getD (4 * i + 1) 0) M (csf (fun _ => 0) 10 NW)).length = 10 := by rw [csf_len, csf_len]; exact hN
  unfold cNW
  refine lx (by rw [List.length_set, List.length_set, hl, mT_len, hp, List.length_replicate]; omega) fun j hj => ?_
  rw [List.length_set, List.length_set, hl] at hj
  rw [gs (by rw [List.length_set]; omega), gs (by omega), csf_at (by rw [csf_len]; omega), csf_at (by omega)]
  have hz : ps.length + (List.replicate (6 - M) 0).length = 6 := by rw [hp, List.length_replicate]; omega
  by_cases h6 : j < 6
  · rw [if_neg (by omega), if_neg (by omega)]
    by_cases hjM : j < M
    · rw [if_pos hjM, hi j hjM, mT_p (by omega)]
    · rw [if_neg hjM, if_pos (by omega)]
      unfold mT
      rw [getD_app, if_neg (by omega), getD_app, if_pos (by rw [List.length_replicate]; omega)]
      rw [List.getD_eq_getElem?_getD, List.getElem?_replicate]
      split <;> rfl
  · have h' : j = 6 ∨ j = 7 ∨ j = 8 ∨ j = 9 := by omega
    rcases h' with rfl | rfl | rfl | rfl
    · rw [if_neg (by omega), if_pos rfl, mT_t (j := 0) hz]; rfl
    · rw [if_pos rfl, mT_t (j := 1) hz]; rfl
    · rw [if_neg (by omega), if_neg (by omega), if_neg (by omega), if_pos (by omega), mT_t (j := 2) hz]; rfl
    · rw [if_neg (by omega), if_neg (by omega), if_neg (by omega), if_pos (by omega), mT_t (j := 3) hz]; rfl
section KZ
variable {xs : List Value} {rw : List Int32 × List (List Int32)} {tx : List Int32 × List (List Int32)} {rm : List Nat × List Nat × List Nat × List Nat × List Int32 × List Int32 × List Int32 × List Int32} {rr : List Nat × Nat × Nat × Nat × Nat × Nat × List Int32} {nx : Nat} {mn : List Nat × List Nat × List Nat × List Nat × List Int32 × List Int32 × List Int32 × List Int32} {ru : List Nat × Nat × Nat × Nat × Nat × Nat × List Int32} {nw : List Nat × Nat × Nat × Nat × Nat × Nat × List Int32} {ra : List Nat × Nat × Nat × Nat × Nat × Nat × List Int32} {dd : List Nat × List Int32} {k0 : Bool × List Nat × List Int32} {k1 : Bool × List Nat × List Int32} {k2 : Bool × List Nat × List Int32} {fc : List Int32} {lf : Int32} {td : Int32} {tu : Int64} {tl : Int64} {τ : ax_H}
theorem kz_0 : ax_set (lay xs rw tx rm rr nx mn ru nw ra dd k0 k1 k2 fc lf td tu tl τ) 41 (0, [.ref 42, .int (nm 1)]) = (lay xs rw tx rm rr nx mn ru nw ra dd (false, k0.2.1, k0.2.2) k1 k2 fc lf td tu tl τ) := rfl
theorem kz_1 : ax_set (lay xs rw tx rm rr nx mn ru nw ra dd k0 k1 k2 fc lf td tu tl τ) 43 (0, [.ref 44, .int (nm 1)]) = (lay xs rw tx rm rr nx mn ru nw ra dd k0 (false, k1.2.1, k1.2.2) k2 fc lf td tu tl τ) := rfl
theorem kz_2 : ax_set (lay xs rw tx rm rr nx mn ru nw ra dd k0 k1 k2 fc lf td tu tl τ) 45 (0, [.ref 46, .int (nm 1)]) = (lay xs rw tx rm rr nx mn ru nw ra dd k0 k1 (false, k2.2.1, k2.2.2) fc lf td tu tl τ) := rfl
theorem dz_0 : ax_set (lay xs rw tx rm rr nx mn ru nw ra dd k0 k1 k2 fc lf td tu tl τ) 38 (0, [.ref 39, .int (nI 0)]) = (lay xs rw tx rm rr nx mn ru nw ra ([], dd.1.map nI ++ dd.2) k0 k1 k2 fc lf td tu tl τ) := by
  have g := lay_dd (xs := xs) (rw := rw) (tx := tx) (rm := rm) (rr := rr) (nx := nx) (mn := mn) (ru := ru) (nw := nw) (ra := ra) (dd := dd) (k0 := k0) (k1 := k1) (k2 := k2) (fc := fc) (lf := lf) (td := td) (tu := tu) (tl := tl) (τ := τ) (n := 0) (Nat.zero_le _)
  exact g
theorem mb_0 (h1 : rm.1.length + rm.2.2.2.2.1.length = 6) (h2 : rm.2.1.length + rm.2.2.2.2.2.1.length = 6) (h3 : rm.2.2.1.length + rm.2.2.2.2.2.2.1.length = 6) (h4 : rm.2.2.2.1.length + rm.2.2.2.2.2.2.2.length = 6) (g1 : mn.1.length + mn.2.2.2.2.1.length = 6) (g2 : mn.2.1.length + mn.2.2.2.2.2.1.length = 6) (g3 : mn.2.2.1.length + mn.2.2.2.2.2.2.1.length = 6) (g4 : mn.2.2.2.1.length + mn.2.2.2.2.2.2.2.length = 6) : ax_ev mi_M_become [.ref 27, .ref 20] (lay xs rw tx rm rr nx mn ru nw ra dd k0 k1 k2 fc lf td tu tl τ) none (lay xs rw tx rm rr nx rm ru nw ra dd k0 k1 k2 fc lf td tu tl τ) := by
  obtain ⟨ek, ep, ec, eo, ekr, epr, ecr, eor⟩ := rm
  obtain ⟨mk, mp, mc, mo, mkr, mpr, mcr, mor⟩ := mn
  exact c_M_become h1 h2 h3 h4 g1 g2 g3 g4
theorem gb_0 (h1 : ru.1.length + ru.2.2.2.2.2.2.length = 6) (h2 : rr.1.length + rr.2.2.2.2.2.2.length = 6) : ax_ev mi_G_become [.ref 32, .ref 25] (lay xs rw tx rm rr nx mn ru nw ra dd k0 k1 k2 fc lf td tu tl τ) none (lay xs rw tx rm rr nx mn (rr.1, rr.2.1, rr.2.2.1, ru.2.2.2.1, rr.2.2.2.2.1, rr.2.2.2.2.2.1, rr.2.2.2.2.2.2) nw ra dd k0 k1 k2 fc lf td tu tl τ) := by
  obtain ⟨wp, wi, wc, wt, wb, ws, wr⟩ := ru
  obtain ⟨up, ui, uc, ut, ub, us, ur⟩ := rr
  exact c_G_become (H := (lay xs rw tx rm (up, ui, uc, ut, ub, us, ur) nx mn (wp, wi, wc, wt, wb, ws, wr) nw ra dd k0 k1 k2 fc lf td tu tl τ)) (a := 32) (p := 33) (a2 := 25) (p2 := 26) (ps := wp) (ps2 := up) (r := wr) (r2 := ur) (i := wi) (c := wc) (t := wt) (b := wb) (s := ws) (i2 := ui) (c2 := uc) (t2 := ut) (b2 := ub) (s2 := us) (by rw [lay_len]; omega) (by rw [lay_len]; omega) (by omega) rfl rfl (by omega) (by omega) (by omega) (by omega) h1 h2
end KZ
def cabS (s : cS) (nx : Nat) (W : ms_RM) (V : ms_RR) : cS := (s.rw, s.tx, W, V, nx, W, (V.1, V.2.1, V.2.2.1, s.ru.2.2.2.1, V.2.2.2.2.1, V.2.2.2.2.2.1, V.2.2.2.2.2.2), (V.1, V.2.1, V.2.2.1, s.nw.2.2.2.1, V.2.2.2.2.1, V.2.2.2.2.2.1, V.2.2.2.2.2.2), s.ra, ([], s.dd.1.map nI ++ s.dd.2), (false, s.k0.2.1, s.k0.2.2), (false, s.k1.2.1, s.k1.2.2), (false, s.k2.2.1, s.k2.2.2), s.fc, s.lf, s.td, s.tu, s.tl)
def cabM (m : mS) (he ch M : Nat) (RM : List Nat) : mS := (m.RS, m.RW, m.TS, m.TX, M, csf (fun i => RM.getD (4 * i) 0) M m.K, csf (fun i => RM.getD (4 * i + 2) 0) M m.PC, csf (fun i => RM.getD (4 * i + 3) 0) M m.CU, cNW RM m.NW M ch, m.AS, 0, m.BF, m.KP, csf (fun _ => 0) 3 m.KT, m.ak, m.up, m.lw, m.fi, m.FS, he, ch, M, RM, m.RO, m.BE, m.WO)
theorem rel_cab {s : cS} {m : mS} {nx he ch : Nat} {W : ms_RM} {V : ms_RR} {RM : List Nat} (h : Rel s m) (hw : rdw W V) (hv : rinv W V RM) (hb : V.2.2.2.2.1 = 0) (hs : V.2.2.2.2.2.1 = 0) (hc : V.2.2.1 = ch) (hch : ch < 256) : Rel (cabS s nx W V) (cabM m he ch W.1.length RM) := by
  obtain ⟨w1, w2, w3, w4, w5, w6, w7, w8, w9, w10, w11, w12⟩ := id hw
  obtain ⟨v1, v2, v3, v4, v5⟩ := hv
  obtain ⟨u1, u2, u3, -⟩ := h.mis.2.1
  have hN : m.NW.length = 10 := by rw [h.gnw.2]; exact mof_len h.gnw.1.1 h.mis.1.1
  have hM6 : W.1.length ≤ 6 := by omega
  have hpw : 2 ^ W.1.length ≤ 64 := Nat.le_trans (Nat.pow_le_pow_right (by omega) hM6) (by decide)
  have hK : ∀ j, j < W.1.length → (csf (fun i => RM.getD (4 * i) 0) W.1.length m.K).getD j 0 = W.1.getD j 0 := fun j hj => by rw [csf_at (by omega), if_pos hj]; exact (v2 j hj).1
  have hPC : ∀ j, j < W.1.length → (csf (fun i => RM.getD (4 * i + 2) 0) W.1.length m.PC).getD j 0 = W.2.1.getD j 0 := fun j hj => by rw [csf_at (by omega), if_pos hj]; exact (v2 j hj).2.2.1
  have hCU : ∀ j, j < W.1.length → (csf (fun i => RM.getD (4 * i + 3) 0) W.1.length m.CU).getD j 0 = RM.getD (4 * j + 3) 0 := fun j hj => by rw [csf_at (by omega), if_pos hj]
  have hC : ∀ j, j < W.1.length → ms_C (csf (fun i => RM.getD (4 * i) 0) W.1.length m.K) (csf (fun i => RM.getD (4 * i + 3) 0) W.1.length m.CU) j = W.2.2.1.getD j 0 := fun j hj => by
    unfold ms_C
    rw [hK j hj, hCU j hj]
    exact (v2 j hj).2.2.2.1.symm
  have hrw : rwf W.1.length V.1 V.2.1 V.2.2.1 := ⟨w4, fun j hj => (v2 j hj).2.2.2.2.2.1, by rw [v3]; omega, by rw [hc]; exact hch⟩
  have hbits : ∀ e, V.2.1.testBit e = true → e < W.1.length := fun e he => by
    rw [v3, Nat.testBit_two_pow_sub_one] at he
    exact of_decide_eq_true he
  have hmis : rMin W W.1.length (csf (fun i => RM.getD (4 * i) 0) W.1.length m.K) (csf (fun i => RM.getD (4 * i + 2) 0) W.1.length m.PC) (csf (fun i => RM.getD (4 * i + 3) 0) W.1.length m.CU) := by
    refine ⟨⟨hM6, rfl, w1, w2, w3, fun j hj => (v2 j hj).2.2.2.2.1, fun j hj => ⟨(v2 j hj).2.2.2.2.2.2.1, (v2 j hj).2.2.2.2.2.2.2.1⟩, fun j hj => w6 j (by omega), fun j hj => ?_⟩, ⟨by rw [csf_len]; exact u1, by rw [csf_len]; exact u2, by rw [csf_len]; exact u3, hM6, fun j hj => ?_, fun j hj => ?_, fun j hj => ?_⟩, fun j hj => ⟨hK j hj, hPC j hj, hC j hj⟩, ?_, v5, w7, w8, w9, w10⟩
    · have := w5 j (by omega)
      omega
    · rw [hK j hj]; exact (v2 j hj).2.2.2.2.1
    · rw [hPC j hj]; exact ⟨(v2 j hj).2.2.2.2.2.2.1, (v2 j hj).2.2.2.2.2.2.2.1⟩
    · rw [hCU j hj]; exact (v2 j hj).2.2.2.2.2.2.2.2
    · unfold srt at v4 ⊢
      refine List.Pairwise.imp_of_mem ?_ v4
      intro a b ha hb hab
      rw [hC a ((v5 a).mp ha), hC b ((v5 b).mp hb)]
      exact hab
  have hnw : cNW RM m.NW W.1.length ch = mof W.1.length (V.1, V.2.1, V.2.2.1, s.nw.2.2.2.1, V.2.2.2.2.1, V.2.2.2.2.2.1) := by
    rw [cNW_eq hN hM6 w4 (fun j hj => (v2 j hj).2.1)]
    unfold mof
    rw [v3, hc, hb, hs]
  have kt : (csf (fun _ => 0) 3 m.KT).length = 3 := by rw [csf_len]; exact h.kps.2.1
  have kz : ∀ k, k < 3 → (csf (fun _ => 0) 3 m.KT).getD k 0 = 0 := fun k hk => by rw [csf_at (by rw [h.kps.2.1]; omega), if_pos hk]
  exact (rel_mk (h.rws) (h.txs) (h.fnd) (h.tld) (h.frc) (hmis) (⟨⟨hrw, hbits, w11⟩, hb.symm, hs.symm⟩) (⟨⟨hrw, hbits, w11⟩, hnw⟩) (⟨rfl, rfl, rfl, rfl, rfl⟩) (⟨rfl, ⟨by show 0 ≤ 40; omega, fun d hd => by cases hd⟩, by show 0 + (s.dd.1.map nI ++ s.dd.2).length = 40; rw [List.length_append, List.length_map, h.ded.2.2.1], h.ded.2.2.2.1, fun k hk => absurd hk (by show ¬ k < 0; omega)⟩) (⟨h.kps.1, kt, ⟨h.kps.2.2.1.1, kz 0 (by omega), fun e => by cases e⟩, ⟨h.kps.2.2.2.1.1, kz 1 (by omega), fun e => by cases e⟩, ⟨h.kps.2.2.2.2.1, kz 2 (by omega), fun e => by cases e⟩⟩) (⟨rdw_v hw, hb, hs⟩) (h.asd) (⟨v1, h.aux.2.1, h.aux.2.2.1, h.aux.2.2.2⟩))
