/-! THE CLASS ALONE: what its state keeps to -/
abbrev cS : Type := (List Int32 × List (List Int32)) × (List Int32 × List (List Int32)) × (List Nat × List Nat × List Nat × List Nat × List Int32 × List Int32 × List Int32 × List Int32) × (List Nat × Nat × Nat × Nat × Nat × Nat × List Int32) × Nat × (List Nat × List Nat × List Nat × List Nat × List Int32 × List Int32 × List Int32 × List Int32) × (List Nat × Nat × Nat × Nat × Nat × Nat × List Int32) × (List Nat × Nat × Nat × Nat × Nat × Nat × List Int32) × (List Nat × Nat × Nat × Nat × Nat × Nat × List Int32) × (List Nat × List Int32) × (Bool × List Nat × List Int32) × (Bool × List Nat × List Int32) × (Bool × List Nat × List Int32) × List Int32 × Int32 × Int32 × Int64 × Int64
abbrev cS.rw (s : cS) : List Int32 × List (List Int32) := s.1
abbrev cS.tx (s : cS) : List Int32 × List (List Int32) := s.2.1
abbrev cS.rm (s : cS) : List Nat × List Nat × List Nat × List Nat × List Int32 × List Int32 × List Int32 × List Int32 := s.2.2.1
abbrev cS.rr (s : cS) : List Nat × Nat × Nat × Nat × Nat × Nat × List Int32 := s.2.2.2.1
abbrev cS.nx (s : cS) : Nat := s.2.2.2.2.1
abbrev cS.mn (s : cS) : List Nat × List Nat × List Nat × List Nat × List Int32 × List Int32 × List Int32 × List Int32 := s.2.2.2.2.2.1
abbrev cS.ru (s : cS) : List Nat × Nat × Nat × Nat × Nat × Nat × List Int32 := s.2.2.2.2.2.2.1
abbrev cS.nw (s : cS) : List Nat × Nat × Nat × Nat × Nat × Nat × List Int32 := s.2.2.2.2.2.2.2.1
abbrev cS.ra (s : cS) : List Nat × Nat × Nat × Nat × Nat × Nat × List Int32 := s.2.2.2.2.2.2.2.2.1
abbrev cS.dd (s : cS) : List Nat × List Int32 := s.2.2.2.2.2.2.2.2.2.1
abbrev cS.k0 (s : cS) : Bool × List Nat × List Int32 := s.2.2.2.2.2.2.2.2.2.2.1
abbrev cS.k1 (s : cS) : Bool × List Nat × List Int32 := s.2.2.2.2.2.2.2.2.2.2.2.1
abbrev cS.k2 (s : cS) : Bool × List Nat × List Int32 := s.2.2.2.2.2.2.2.2.2.2.2.2.1
abbrev cS.fc (s : cS) : List Int32 := s.2.2.2.2.2.2.2.2.2.2.2.2.2.1
abbrev cS.lf (s : cS) : Int32 := s.2.2.2.2.2.2.2.2.2.2.2.2.2.2.1
abbrev cS.td (s : cS) : Int32 := s.2.2.2.2.2.2.2.2.2.2.2.2.2.2.2.1
abbrev cS.tu (s : cS) : Int64 := s.2.2.2.2.2.2.2.2.2.2.2.2.2.2.2.2.1
abbrev cS.tl (s : cS) : Int64 := s.2.2.2.2.2.2.2.2.2.2.2.2.2.2.2.2.2
abbrev mS : Type := Nat
abbrev mS.mc (m : mS) : Nat := m
abbrev cR : Type := List Nat × Nat × Nat × Nat × Nat × Nat × List Int32
abbrev cM : Type := List Nat × List Nat × List Nat × List Nat × List Int32 × List Int32 × List Int32 × List Int32
def rRow (N most : Nat) (rw : List Int32 × List (List Int32)) : Prop := rwl N most rw ∧ True
def rMin (mn : cM) (mc : Nat) : Prop :=
  mwf mc mn.1 mn.2.1 mn.2.2.1 mn.2.2.2.1 ∧ True ∧ True ∧ mn.2.2.2.1.Nodup ∧ (∀ e, e ∈ mn.2.2.2.1 ↔ e < mc) ∧ mc + mn.2.2.2.2.1.length = 6 ∧ mc + mn.2.2.2.2.2.1.length = 6 ∧ mc + mn.2.2.2.2.2.2.1.length = 6 ∧ mc + mn.2.2.2.2.2.2.2.length = 6
/-- a ring's numbers -/
def gof (w : cR) : ms_G := (w.1, w.2.1, w.2.2.1, w.2.2.2.1, w.2.2.2.2.1, w.2.2.2.2.2.1)
/-- behind DEEDS -/
def gaf (mn : cM) (g : ms_G) (ds : List Nat) : ms_G := ds.foldl (fun g d => ms_ug mn.1 mn.2.1 mn.2.2.2.1 d g) g
/-- alike but for the CHAIRS of the STOP that was last -/
def eqg (g g' : ms_G) : Prop := g.1 = g'.1 ∧ g.2.1 = g'.2.1 ∧ g.2.2.1 = g'.2.2.1 ∧ g.2.2.2.2.1 = g'.2.2.2.2.1 ∧ g.2.2.2.2.2 = g'.2.2.2.2.2
def gok (mc : Nat) (w : cR) : Prop := gwf mc (gof w) ∧ (∀ e, w.2.1.testBit e = true → e < mc) ∧ mc + w.2.2.2.2.2.2.length = 6
def dok (mc : Nat) (ds : List Nat) : Prop := ds.length ≤ 40 ∧ ∀ d, d ∈ ds → d < 10 ∨ d - 10 < mc
def kok (mc : Nat) (kp : Bool × List Nat × List Int32) : Prop := kp.2.1.length + kp.2.2.length = 40 ∧ True ∧ (kp.1 = true → dok mc kp.2.1)
def Rel (s : cS) (m : mS) : Prop :=
  (rRow 6 40 s.rw) ∧
  (rRow 4 60 s.tx) ∧
  (True ∧ True ∧ s.fc.length = 6) ∧
  True ∧
  True ∧
  (rMin s.mn m.mc) ∧
  (gok m.mc s.ru ∧ 0 = s.ru.2.2.2.2.1 ∧ 0 = s.ru.2.2.2.2.2.1) ∧
  (gok m.mc s.nw ∧ True) ∧
  (eqg (gof s.nw) (gaf s.mn (gof s.ru) s.dd.1)) ∧
  (True ∧ dok m.mc s.dd.1 ∧ s.dd.1.length + s.dd.2.length = 40 ∧ True) ∧
  (True ∧ True ∧ kok m.mc s.k0 ∧ kok m.mc s.k1 ∧ kok m.mc s.k2) ∧
  (rdv s.rm s.rr ∧ s.rr.2.2.2.2.1 = 0 ∧ s.rr.2.2.2.2.2.1 = 0) ∧
  (s.ra.1.length + s.ra.2.2.2.2.2.2.length = 6 ∧ True) ∧
  True
section RP
variable {s : cS} {m : mS}
theorem Rel.rws (h : Rel s m) : rRow 6 40 s.rw := h.1
theorem Rel.txs (h : Rel s m) : rRow 4 60 s.tx := h.2.1
theorem Rel.fnd (h : Rel s m) : True ∧ True ∧ s.fc.length = 6 := h.2.2.1
theorem Rel.tld (h : Rel s m) : True := h.2.2.2.1
theorem Rel.frc (h : Rel s m) : True := h.2.2.2.2.1
theorem Rel.mis (h : Rel s m) : rMin s.mn m.mc := h.2.2.2.2.2.1
theorem Rel.gst (h : Rel s m) : gok m.mc s.ru ∧ 0 = s.ru.2.2.2.2.1 ∧ 0 = s.ru.2.2.2.2.2.1 := h.2.2.2.2.2.2.1
theorem Rel.gnw (h : Rel s m) : gok m.mc s.nw ∧ True := h.2.2.2.2.2.2.2.1
theorem Rel.now (h : Rel s m) : eqg (gof s.nw) (gaf s.mn (gof s.ru) s.dd.1) := h.2.2.2.2.2.2.2.2.1
theorem Rel.ded (h : Rel s m) : True ∧ dok m.mc s.dd.1 ∧ s.dd.1.length + s.dd.2.length = 40 ∧ True := h.2.2.2.2.2.2.2.2.2.1
theorem Rel.kps (h : Rel s m) : True ∧ True ∧ kok m.mc s.k0 ∧ kok m.mc s.k1 ∧ kok m.mc s.k2 := h.2.2.2.2.2.2.2.2.2.2.1
theorem Rel.rdr (h : Rel s m) : rdv s.rm s.rr ∧ s.rr.2.2.2.2.1 = 0 ∧ s.rr.2.2.2.2.2.1 = 0 := h.2.2.2.2.2.2.2.2.2.2.2.1
theorem Rel.asd (h : Rel s m) : s.ra.1.length + s.ra.2.2.2.2.2.2.length = 6 ∧ True := h.2.2.2.2.2.2.2.2.2.2.2.2.1
theorem Rel.aux (h : Rel s m) : True := h.2.2.2.2.2.2.2.2.2.2.2.2.2
theorem rel_mk (h0 : rRow 6 40 s.rw) (h1 : rRow 4 60 s.tx) (h2 : True ∧ True ∧ s.fc.length = 6) (h3 : True) (h4 : True) (h5 : rMin s.mn m.mc) (h6 : gok m.mc s.ru ∧ 0 = s.ru.2.2.2.2.1 ∧ 0 = s.ru.2.2.2.2.2.1) (h7 : gok m.mc s.nw ∧ True) (h8 : eqg (gof s.nw) (gaf s.mn (gof s.ru) s.dd.1)) (h9 : True ∧ dok m.mc s.dd.1 ∧ s.dd.1.length + s.dd.2.length = 40 ∧ True) (h10 : True ∧ True ∧ kok m.mc s.k0 ∧ kok m.mc s.k1 ∧ kok m.mc s.k2) (h11 : rdv s.rm s.rr ∧ s.rr.2.2.2.2.1 = 0 ∧ s.rr.2.2.2.2.2.1 = 0) (h12 : s.ra.1.length + s.ra.2.2.2.2.2.2.length = 6 ∧ True) (h13 : True) : Rel s m := ⟨h0, h1, h2, h3, h4, h5, h6, h7, h8, h9, h10, h11, h12, h13⟩
end RP
def ctl (x : Int32) (s : cS) : cS := (s.rw, s.tx, s.rm, s.rr, s.nx, s.mn, s.ru, s.nw, s.ra, s.dd, s.k0, s.k1, s.k2, s.fc, s.lf, x, s.tu, s.tl)
theorem rel_tl {x : Int32} {s : cS} {m : mS} (h : Rel s m) : Rel (ctl x s) m := (rel_mk (h.rws) (h.txs) (h.fnd) (trivial) (h.frc) (h.mis) (h.gst) (h.gnw) (h.now) (h.ded) (h.kps) (h.rdr) (h.asd) (h.aux))
def cfd (f : Nat) (s : cS) : cS := (s.rw, s.tx, s.rm, s.rr, s.nx, s.mn, s.ru, s.nw, s.ra, s.dd, s.k0, s.k1, s.k2, s.fc.set f (ig s.fc f + nI 1), nI f, s.td, s.tu, s.tl)
theorem rel_fd {f : Nat} {s : cS} {m : mS} (h : Rel s m) : Rel (cfd f s) m :=
  (rel_mk (h.rws) (h.txs) (⟨trivial, trivial, by unfold cfd; show (s.fc.set _ _).length = 6; rw [List.length_set]; exact h.fnd.2.2⟩) (h.tld) (h.frc) (h.mis) (h.gst) (h.gnw) (h.now) (h.ded) (h.kps) (h.rdr) (h.asd) (h.aux))
theorem rel_mc {s : cS} {m : mS} (h : Rel s m) : s.mn.1.length = m.mc := h.mis.1.2.1
theorem rel_l1 {s : cS} {m : mS} (h : Rel s m) : s.nw.1.length + s.nw.2.2.2.2.2.2.length = 6 := by have a := h.gnw.1.1.1; have b := h.gnw.1.2.2; have e : (gof s.nw).1 = s.nw.1 := rfl; rw [e] at a; omega
theorem rel_l2 {s : cS} {m : mS} (h : Rel s m) : s.ru.1.length + s.ru.2.2.2.2.2.2.length = 6 := by have a := h.gst.1.1.1; have b := h.gst.1.2.2; have e : (gof s.ru).1 = s.ru.1 := rfl; rw [e] at a; omega
theorem rel_rw {s : cS} {m : mS} (h : Rel s m) : rwf m.mc s.nw.1 s.nw.2.1 s.nw.2.2.1 := h.gnw.1.1
