/-! a CABINET told by cells -/
def tS (A : List Int32) : cS := (fS.rw, (fS.tx.1.set 2 (nI 60), fS.tx.2.set 2 A), fS.rm, fS.rr, fS.nx, fS.mn, fS.ru, fS.nw, fS.ra, fS.dd, fS.k0, fS.k1, fS.k2, fS.fc, fS.lf, fS.td, fS.tu, fS.tl)
theorem tS_put {A : List Int32} {i : Nat} {y : Int32} : putS 2 i y (tS A) = tS (A.set i y) := rfl
theorem tS_row {A : List Int32} : (tS A).tx.2.getD 2 [] = A := rfl
theorem tS_sz {A : List Int32} : ig (tS A).tx.1 2 = nI 60 := rfl
theorem rel_tS {A : List Int32} (hA : A.length = 60) : Rel (tS A) 0 := by
  have g := rwl_new (B := A) (n := 60) (k := 2) f_r4.1 (by omega) (Nat.le_refl _) hA
  exact rel_mk f_rel.rws ⟨g, trivial⟩ f_rel.fnd trivial trivial f_rel.mis f_rel.gst f_rel.gnw f_rel.now f_rel.ded f_rel.kps f_rel.rdr f_rel.asd trivial
section TE
variable {xs : List Value} {τ : ax_H} {A : List Int32} {ys : List Int32} {Q : Option Value → ax_H → Prop} {κ : ax_B}
theorem t_text : ax_ev mi_C_text [.ref 2, .int (nI 2), .int (nI 60)] (hp xs fS τ) (some (.int (nI 60))) (hp xs (tS (List.replicate 60 (nI 32))) τ) := by
  have g := w_text (xs := xs) (τ := τ) (k := 2) (n := 60) f_rel (by omega) (by omega)
  have e : textS 2 60 fS = tS (List.replicate 60 (nI 32)) := by
    have e2 : jd_fill (fS.tx.2.getD 2 []) (nI 32) 0 60 = List.replicate 60 (nI 32) := by
      show jd_fill (zi 60) (nI 32) 0 60 = _
      unfold jd_fill
      rw [List.take_zero, List.nil_append, List.drop_eq_nil_of_le (by rw [zi_len]; omega), List.append_nil]
    show (fS.rw, (fS.tx.1.set 2 (nI 60), fS.tx.2.set 2 (jd_fill (fS.tx.2.getD 2 []) (nI 32) 0 60)), fS.rm, fS.rr, fS.nx, fS.mn, fS.ru, fS.nw, fS.ra, fS.dd, fS.k0, fS.k1, fS.k2, fS.fc, fS.lf, fS.td, fS.tu, fS.tl) = _
    rw [e2]
    rfl
  rw [e] at g
  exact g
theorem t_put {i : Nat} {y : Int32} (hA : A.length = 60) (hi : i < 60) (hb : ig A i = nI 32) (hy : y.toInt8.toInt32 = y) : ax_ev mi_C_put [.ref 2, .int (nI 2), .int (nI i), .int y] (hp xs (tS A) τ) (some (.int 1032)) (hp xs (tS (A.set i y)) τ) := by
  have g := w_put (xs := xs) (τ := τ) (k := 2) (n := 60) (i := i) (y := y) (rel_tS hA) (by omega) tS_sz (by omega) hi
  rw [tS_row, hb, hy, show (1000 : Int32) + nI 32 = 1032 by decide +kernel, tS_put] at g
  exact g
/-- what the law goes on with -/
def ini (s : cS) (n : Nat) (Z T : List Nat) : Prop :=
  Rel s n ∧ (1 ≤ n ∧ n ≤ 6) ∧ Z.length = 19 ∧ T.length = 10 ∧ Z.getD 0 0 = n ∧ (∀ e, e < n → Z.getD (1 + e) 0 = s.mn.1.getD e 0 ∧ Z.getD (7 + e) 0 = s.mn.2.1.getD e 0 ∧ T.getD e 0 = s.ru.1.getD e 0) ∧ s.ru.2.1 = 2 ^ n - 1 ∧ s.ru.2.2.1 = T.getD 7 0 ∧ (0 < T.getD 7 0 ∧ T.getD 7 0 < 255) ∧ s.dd.1 = [] ∧ (s.k0.1 = false ∧ s.k1.1 = false ∧ s.k2.1 = false) ∧ eqg (gof s.nw) (gof s.ru)
theorem gsZ {l : List Nat} {i j v n : Nat} (hl : l.length = n) (h : i < n) : (l.set i v).getD j 0 = if j = i then v else l.getD j 0 := gs (by omega)
theorem t_end {Z T : List Nat} {n at0 : Nat} (h : tM A (T.getD 7 0) n at0 Z T) (hn : 1 ≤ n) (hn6 : n ≤ 6) (hZ : Z.length = 19) (hT : T.length = 10) (h0 : Z.getD 0 0 = n) (hc : 0 < T.getD 7 0 ∧ T.getD 7 0 < 255) : ∃ s1 s2, ax_ev mi_C_fault [.ref 2, .int (nI 2)] (hp xs (tS A) τ) (some (.int (nm 9))) (hp xs s1 τ) ∧ ax_ev mi_C_cabinet [.ref 2, .int (nI 2)] (hp xs s1 τ) (some (.int (nI n))) (hp xs s2 τ) ∧ ini s2 n Z T := by
  have hA := h.1
  obtain ⟨W, V, r1, r2⟩ := tM_e (rm := (tS A).rm) (rr := (tS A).rr) h hn hn6 f_rel.rdr.1 rfl rfl
  have c1 := q_fault (xs := xs) (τ := τ) (k := 2) (n := 60) (nx := 60) (W := W) (V := V) (rel_tS hA) (by omega) tS_sz (by omega) r2
  have w1 := rdw_v r1.2.1
  have h1 : Rel ((tS A).rw, (tS A).tx, W, V, 60, (tS A).mn, (tS A).ru, (tS A).nw, (tS A).ra, (tS A).dd, (tS A).k0, (tS A).k1, (tS A).k2, (tS A).fc, (tS A).lf, (tS A).td, (tS A).tu, (tS A).tl) 0 := rel_rd (rel_tS hA) w1 r1.2.2.2.2.2.2.2.1 r1.2.2.2.2.2.2.2.2
  obtain ⟨W2, V2, q1, q2⟩ := tM_e (rm := W) (rr := V) h hn hn6 w1 r1.2.2.2.2.2.2.2.1 r1.2.2.2.2.2.2.2.2
  have c2 := q_cabinet (xs := xs) (τ := τ) (k := 2) (n := 60) (nx := 60) (W := W2) (V := V2) h1 (by omega) tS_sz (by omega) q2 q1.2.1
  obtain ⟨a1, a2, a3, a4, a5, a6, a7, a8, a9⟩ := q1
  have h2 : Rel (cabS ((tS A).rw, (tS A).tx, W, V, 60, (tS A).mn, (tS A).ru, (tS A).nw, (tS A).ra, (tS A).dd, (tS A).k0, (tS A).k1, (tS A).k2, (tS A).fc, (tS A).lf, (tS A).td, (tS A).tu, (tS A).tl) 60 W2 V2) W2.1.length := rel_cab h1 a2 ⟨fun j hj => (a3 j (by omega)).2.2.2.1, fun j hj => ⟨(a3 j (by omega)).2.2.2.2.1, (a3 j (by omega)).2.2.2.2.2.1⟩, a4, fun e => by rw [a5, a1]⟩ (fun j hj => (a3 j (by have := a2.2.2.2.1; omega)).2.2.2.2.2.2) (by rw [a6, a1]) (by rw [a7]; omega) a8 a9
  rw [a1] at c2 h2
  refine ⟨_, _, c1, c2, h2, ⟨hn, hn6⟩, hZ, hT, h0, fun e he => ?_, a6, a7, hc, rfl, ⟨rfl, rfl, rfl⟩, eqg_r⟩
  obtain ⟨b1, b2, b3, -⟩ := a3 e he
  exact ⟨b1.symm, b2.symm, b3.symm⟩
end TE
