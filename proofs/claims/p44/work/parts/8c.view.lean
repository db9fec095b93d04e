/-! the class in the law's heap; what stays the same -/
def hp (xs : List Value) (s : cS) (τ : ax_H) : ax_H := (lay xs s.rw s.tx s.rm s.rr s.nx s.mn s.ru s.nw s.ra s.dd s.k0 s.k1 s.k2 s.fc s.lf s.td s.tu s.tl τ)
def hpc (s : cS) : List Value := [.ref 3, .ref 12, .ref 19, .ref 27, .ref 32, .ref 34, .ref 36, .ref 38, .ref 40, .ref 47, .int s.lf, .int s.td, .long s.tu, .long s.tl]
section HP
variable {xs : List Value} {s : cS} {τ : ax_H} {Q : List Value → Prop} {c c0 c1 : ax_C} {g : Nat} {vs : List Value}
theorem hp_0 : ax_obj (hp xs s τ) 0 20 Q = Q xs := ax_obj_of rfl
theorem hp_2 : ax_get (hp xs s τ) 2 = some (5, hpc s) := rfl
theorem hp_48 : ax_obj (hp xs s ((g, vs) :: τ)) 48 g Q = Q vs := ax_obj_of rfl
theorem hp_49 : ax_obj (hp xs s (c0 :: (g, vs) :: τ)) 49 g Q = Q vs := ax_obj_of rfl
theorem hp_50 : ax_obj (hp xs s (c0 :: c1 :: (g, vs) :: τ)) 50 g Q = Q vs := ax_obj_of rfl
theorem hs_48 : ax_set (hp xs s (c0 :: τ)) 48 c = hp xs s (c :: τ) := rfl
theorem hs_49 : ax_set (hp xs s (c0 :: c1 :: τ)) 49 c = hp xs s (c0 :: c :: τ) := rfl
theorem hs_50 {c2 : ax_C} : ax_set (hp xs s (c0 :: c1 :: c2 :: τ)) 50 c = hp xs s (c0 :: c1 :: c :: τ) := rfl
theorem hp_len : (hp xs s τ).length = τ.length + 48 := rfl
theorem hp_app : hp xs s τ ++ [c] = hp xs s (τ ++ [c]) := rfl
end HP
/-- the same but for what a question leaves behind -/
def sv (s s' : cS) : Prop := s'.mn = s.mn ∧ s'.ru = s.ru ∧ eqg (gof s'.nw) (gof s.nw) ∧ s'.dd.1 = s.dd.1 ∧ s'.k0 = s.k0 ∧ s'.k1 = s.k1 ∧ s'.k2 = s.k2 ∧ s'.tx = s.tx
def svr (s s' : cS) : Prop := sv s s' ∧ s'.rw = s.rw
theorem eqg_r {g : ms_G} : eqg g g := ⟨rfl, rfl, rfl, rfl, rfl⟩
theorem eqg_t {a b c : ms_G} (h : eqg a b) (g : eqg b c) : eqg a c := ⟨h.1.trans g.1, h.2.1.trans g.2.1, h.2.2.1.trans g.2.2.1, h.2.2.2.1.trans g.2.2.2.1, h.2.2.2.2.trans g.2.2.2.2⟩
theorem eqg_s {a b : ms_G} (h : eqg a b) : eqg b a := ⟨h.1.symm, h.2.1.symm, h.2.2.1.symm, h.2.2.2.1.symm, h.2.2.2.2.symm⟩
theorem sv_r {s : cS} : sv s s := ⟨rfl, rfl, eqg_r, rfl, rfl, rfl, rfl, rfl⟩
theorem sv_t {a b c : cS} (h : sv a b) (g : sv b c) : sv a c := ⟨g.1.trans h.1, g.2.1.trans h.2.1, eqg_t g.2.2.1 h.2.2.1, g.2.2.2.1.trans h.2.2.2.1, g.2.2.2.2.1.trans h.2.2.2.2.1, g.2.2.2.2.2.1.trans h.2.2.2.2.2.1, g.2.2.2.2.2.2.1.trans h.2.2.2.2.2.2.1, g.2.2.2.2.2.2.2.trans h.2.2.2.2.2.2.2⟩
theorem sv_s {a b : cS} (h : sv a b) : sv b a := ⟨h.1.symm, h.2.1.symm, eqg_s h.2.2.1, h.2.2.2.1.symm, h.2.2.2.2.1.symm, h.2.2.2.2.2.1.symm, h.2.2.2.2.2.2.1.symm, h.2.2.2.2.2.2.2.symm⟩
theorem svr_r {s : cS} : svr s s := ⟨sv_r, rfl⟩
theorem svr_t {a b c : cS} (h : svr a b) (g : svr b c) : svr a c := ⟨sv_t h.1 g.1, g.2.trans h.2⟩
theorem svr_s {a b : cS} (h : svr a b) : svr b a := ⟨sv_s h.1, h.2.symm⟩
theorem svr_ctl {s : cS} {x : Int32} : svr s (ctl x s) := ⟨sv_r, rfl⟩
theorem svr_as {s : cS} {n c : Nat} : svr s (asS n c s) := ⟨sv_r, rfl⟩
section SV
variable {s s' : cS} (h : sv s s')
theorem sv_mn : sv s s' → s'.mn = s.mn := fun h => h.1
theorem sv_ps : sv s s' → s'.nw.1 = s.nw.1 := fun h => h.2.2.1.1
theorem sv_in : sv s s' → s'.nw.2.1 = s.nw.2.1 := fun h => h.2.2.1.2.1
theorem sv_ch : sv s s' → s'.nw.2.2.1 = s.nw.2.2.1 := fun h => h.2.2.1.2.2.1
theorem sv_br : sv s s' → s'.nw.2.2.2.2.1 = s.nw.2.2.2.2.1 := fun h => h.2.2.1.2.2.2.1
theorem sv_st : sv s s' → s'.nw.2.2.2.2.2.1 = s.nw.2.2.2.2.2.1 := fun h => h.2.2.1.2.2.2.2
theorem sv_dd : sv s s' → s'.dd.1 = s.dd.1 := fun h => h.2.2.2.1
end SV
abbrev inC (s : cS) (k c : Nat) : Nat := (asd s.mn s.nw k c).2.1
abbrev inN (s : cS) (k : Nat) : Nat := inC s k s.nw.2.2.1
abbrev tkN (s : cS) (k : Nat) : Nat := (asd s.mn s.nw k s.nw.2.2.1).2.2
theorem sv_asd {s s' : cS} (h : sv s s') (k c : Nat) : asd s'.mn s'.nw k c = asd s.mn s.nw k c := by
  unfold asd
  rw [h.1, sv_ps h, sv_in h]
theorem sv_inN {s s' : cS} (h : sv s s') (k : Nat) : inN s' k = inN s k := by
  unfold inN inC
  rw [sv_asd h, sv_ch h]
theorem sv_tkN {s s' : cS} (h : sv s s') (k : Nat) : tkN s' k = tkN s k := by
  unfold tkN
  rw [sv_asd h, sv_ch h]
theorem sv_mnum {s s' : cS} (h : sv s s') (i : Nat) : ∀ w, mnum s' i w = mnum s i w
  | 0 => by show s'.mn.1.getD i 0 = s.mn.1.getD i 0; rw [h.1]
  | 1 => by show s'.nw.1.getD i 0 = s.nw.1.getD i 0; rw [sv_ps h]
  | 2 => by show s'.mn.2.1.getD i 0 = s.mn.2.1.getD i 0; rw [h.1]
  | 3 => by show s'.mn.2.2.1.getD i 0 = s.mn.2.2.1.getD i 0; rw [h.1]
  | 4 => by show bz (s'.nw.2.1.testBit i) = bz (s.nw.2.1.testBit i); rw [sv_in h]
  | n + 5 => by show ms_str (s'.mn.1.getD i 0) (s'.mn.2.1.getD i 0) (s'.nw.1.getD i 0) s'.nw.2.2.1 = ms_str (s.mn.1.getD i 0) (s.mn.2.1.getD i 0) (s.nw.1.getD i 0) s.nw.2.2.1; rw [h.1, sv_ps h, sv_ch h]
theorem sv_msbt {s s' : cS} (h : sv s s') (i : Nat) : ∀ k, msbt s' i k = msbt s i k
  | 0 => rfl
  | k + 1 => by
    unfold msbt
    rw [sv_msbt h i k]
    have := sv_inN h k
    unfold inN inC at this
    rw [this]
theorem svr_mcn {s s' : cS} (h : svr s s') : ∀ w, mcn s' w = mcn s w := by
  obtain ⟨h, hr⟩ := h
  obtain ⟨a1, a2, a3, a4, a5, a6, a7, a8⟩ := id h
  intro w
  match w with
  | 0 => show s'.mn.1.length = s.mn.1.length; rw [a1]
  | 1 => exact sv_br h
  | 2 => show s'.dd.1.length = s.dd.1.length; rw [a4]
  | 3 => exact sv_in h
  | 4 => exact sv_ch h
  | 5 => exact sv_st h
  | 6 => show ms_many s'.mn.1 1 s'.mn.1.length = ms_many s.mn.1 1 s.mn.1.length; rw [a1]
  | 7 => show ms_many s'.mn.1 3 s'.mn.1.length = ms_many s.mn.1 3 s.mn.1.length; rw [a1]
  | 8 => show ms_hl s'.rw.1 6 0 = ms_hl s.rw.1 6 0; rw [hr]
  | 9 => show ms_hl s'.tx.1 4 0 = ms_hl s.tx.1 4 0; rw [a8]
  | n + 10 => show bz s'.k0.1 + bz s'.k1.1 + bz s'.k2.1 = bz s.k0.1 + bz s.k1.1 + bz s.k2.1; rw [a5, a6, a7]
theorem svr_kfn {s s' : cS} (h : sv s s') (k : Nat) : kfn s' k = kfn s k := by
  obtain ⟨a1, a2, a3, a4, a5, a6, a7, a8⟩ := h
  match k with
  | 0 => show (if s'.k0.1 = true then nI s'.k0.2.1.length else nm 1) = (if s.k0.1 = true then nI s.k0.2.1.length else nm 1); rw [a5]
  | 1 => show (if s'.k1.1 = true then nI s'.k1.2.1.length else nm 1) = (if s.k1.1 = true then nI s.k1.2.1.length else nm 1); rw [a6]
  | n + 2 => show (if s'.k2.1 = true then nI s'.k2.2.1.length else nm 1) = (if s.k2.1 = true then nI s.k2.2.1.length else nm 1); rw [a7]
theorem svr_dg {s s' : cS} (h : svr s s') (mc : Nat) : dgE s' mc = dgE s mc := by
  have e1 : (fun w => nI (mcn s' w)) = (fun w => nI (mcn s w)) := funext fun w => by rw [svr_mcn h]
  have e2 : (fun i w => nI (mnum s' i w)) = (fun i w => nI (mnum s i w)) := funext fun i => funext fun w => by rw [sv_mnum h.1]
  have e3 : kfn s' = kfn s := funext fun k => svr_kfn h.1 k
  unfold dgE dgD dgC dgB dgA
  rw [e1, e2, e3, h.2, h.1.2.2.2.2.2.2.2]
section WW
variable {s : cS} {m : mS} {xs : List Value} {τ : ax_H} {i n k p q l : Nat}
theorem w_count (h : Rel s m) (w : Nat) (hw : w < 11) : ax_ev mi_C_count [.ref 2, .int (nI w)] (hp xs s τ) (some (.int (nI (mcn s w)))) (hp xs s τ) := c_C_count h w hw
theorem w_digest (h : Rel s m) : ax_ev mi_C_digest [.ref 2] (hp xs s τ) (some (.long (dgE s m.mc))) (hp xs s τ) := c_C_digest h
theorem w_asked : ax_ev mi_C_asked [.ref 2] (hp xs s τ) (some (.int s.td)) (hp xs s τ) := q_asked
theorem w_upper : ax_ev mi_C_upper [.ref 2] (hp xs s τ) (some (.long s.tu)) (hp xs s τ) := q_upper
theorem w_lower : ax_ev mi_C_lower [.ref 2] (hp xs s τ) (some (.long s.tl)) (hp xs s τ) := q_lower
theorem w_minister (h : Rel s m) (hi : i < m.mc) (hw : n < 6) : ax_ev mi_C_minister [.ref 2, .int (nI i), .int (nI n)] (hp xs s τ) (some (.int (nI 1))) (hp xs (ctl (nI (mnum s i n)) s) τ) := q_minister h hi hw
theorem w_bar (h : Rel s m) (h0 : m.mc ≠ 0) (hd : s.dd.1.length < 40) : ax_ev mi_C_bar [.ref 2] (hp xs s τ) (some (.int (nI (s.nw.2.2.2.2.1 + 1)))) (hp xs (actS 0 s) τ) := q_bar h h0 hd
theorem w_stop (h : Rel s m) (h0 : m.mc ≠ 0) (hd : s.dd.1.length < 40) : ax_ev mi_C_stop [.ref 2] (hp xs s τ) (some (.int (nI (ms_pop (actS 1 s).nw.2.1)))) (hp xs (actS 1 s) τ) := q_stop h h0 hd
theorem w_takeN (h : Rel s m) (hq : q < 8) (hs : s.nw.2.2.1.testBit q = false ∨ ¬ 1 < ms_pop s.nw.2.2.1) : ax_ev mi_C_take [.ref 2, .int (nI q)] (hp xs s τ) (some (.int (nm 4))) (hp xs s τ) := q_takeN h hq hs
theorem w_takeY (h : Rel s m) (hq : q < 8) (hb : s.nw.2.2.1.testBit q = true) (hpp : 1 < ms_pop s.nw.2.2.1) (hd : s.dd.1.length < 40) : ax_ev mi_C_take [.ref 2, .int (nI q)] (hp xs s τ) (some (.int (nI (ms_pop (actS (2 + q) s).nw.2.2.1)))) (hp xs (actS (2 + q) s) τ) := q_takeY h hq hb hpp hd
theorem w_nudgeN (h : Rel s m) (hq : q < m.mc) (hb : s.nw.2.1.testBit q = false) : ax_ev mi_C_nudge [.ref 2, .int (nI q)] (hp xs s τ) (some (.int (nm 4))) (hp xs s τ) := q_nudgeN h hq hb
theorem w_nudgeY (h : Rel s m) (hq : q < m.mc) (hb : s.nw.2.1.testBit q = true) (hd : s.dd.1.length < 40) : ax_ev mi_C_nudge [.ref 2, .int (nI q)] (hp xs s τ) (some (.int (nI ((actS (10 + q) s).nw.1.getD q 0)))) (hp xs (actS (10 + q) s) τ) := q_nudgeY h hq hb hd
theorem w_undo (h : Rel s m) (hn : n ≤ s.dd.1.length) : ax_ev mi_C_undo [.ref 2, .int (nI n)] (hp xs s τ) (some (.int (nI (s.dd.1.length - n)))) (hp xs (unS n s) τ) := q_undo h hn
theorem w_keep (h : Rel s m) (h0 : m.mc ≠ 0) (hk : k < 3) : ax_ev mi_C_keep [.ref 2, .int (nI k)] (hp xs s τ) (some (.int (nI s.dd.1.length))) (hp xs (ckeep s k) τ) := c_C_keep h h0 k hk
theorem w_on (h : Rel s m) (hk : k < 3) (hb : (ckof s k).1 = true) : ax_ev mi_C_on [.ref 2, .int (nI k)] (hp xs s τ) (some (.int (nI (ckof s k).2.1.length))) (hp xs (onS k s) τ) := q_on h hk hb
theorem w_sits (h : Rel s m) (h0 : m.mc ≠ 0) (hn : n < 21) : ax_ev mi_C_sits [.ref 2, .int (nI n)] (hp xs s τ) (some (.int (nI (inN s n)))) (hp xs (ctl (nI (tkN s n)) (asS n s.nw.2.2.1 s)) τ) := q_sits h h0 hn
theorem w_where (h : Rel s m) (hi : i < m.mc) (hn : n ≤ 60) : ax_ev mi_C_where [.ref 2, .int (nI i), .int (nI n)] (hp xs s τ) (some (.int (if s.nw.2.1.testBit i then nI (ms_aft (s.mn.1.getD i 0) (s.mn.2.1.getD i 0) s.nw.2.2.1 n (s.nw.1.getD i 0)) else nm 4))) (hp xs s τ) := q_where h hi hn
theorem w_barsN (h : Rel s m) (hi : i < m.mc) (hbit : s.nw.2.1.testBit i = false) : ax_ev mi_C_bars [.ref 2, .int (nI i)] (hp xs s τ) (some (.int (nm 4))) (hp xs s τ) := q_barsN h hi hbit
theorem w_barsY (h : Rel s m) (hi : i < m.mc) (hbit : s.nw.2.1.testBit i = true) : ax_ev mi_C_bars [.ref 2, .int (nI i)] (hp xs s τ) (some (.int (nI (msbt s i 21)))) (hp xs (asS 20 s.nw.2.2.1 s) τ) := q_barsY h hi hbit
theorem w_when (h : Rel s m) (h0 : m.mc ≠ 0) (hq : q < 2 ^ m.mc) : ax_ev mi_C_when [.ref 2, .int (nI q)] (hp xs s τ) (some (.int (oN (mswh s q 21 0)))) (hp xs (asS ((mswh s q 21 0).getD 20) s.nw.2.2.1 s) τ) := q_when h h0 hq
theorem w_removeN (h : Rel s m) (hi : i < m.mc) (hn : n ≤ 20) (hbit : s.nw.2.1.testBit i = false) : ax_ev mi_C_remove [.ref 2, .int (nI i), .int (nI n)] (hp xs s τ) (some (.int (nm 4))) (hp xs s τ) := q_removeN h hi hn hbit
theorem w_bribeN (h : Rel s m) (hi : i < m.mc) (hn : n ≤ 3) (hbit : s.nw.2.1.testBit i = false) : ax_ev mi_C_bribe [.ref 2, .int (nI i), .int (nI n)] (hp xs s τ) (some (.int (nm 4))) (hp xs s τ) := q_bribeN h hi hn hbit
theorem w_spareN (h : Rel s m) (hi : i < m.mc) (hn : n ≤ 20) (hbit : s.nw.2.1.testBit i = true) (hmore : ¬ 1 < ms_pop s.nw.2.2.1) : ax_ev mi_C_spare [.ref 2, .int (nI i), .int (nI n)] (hp xs s τ) (some (.int (nm 9))) (hp xs s τ) := q_spareN h hi hn hbit hmore
def raS (R : cR) (s : cS) : cS := (s.rw, s.tx, s.rm, s.rr, s.nx, s.mn, s.ru, s.nw, R, s.dd, s.k0, s.k1, s.k2, s.fc, s.lf, s.td, s.tu, s.tl)
theorem rel_ra {R : cR} (h : Rel s m) (hR : R.1.length + R.2.2.2.2.2.2.length = 6) : Rel (raS R s) m := (rel_mk (h.rws) (h.txs) (h.fnd) (h.tld) (h.frc) (h.mis) (h.gst) (h.gnw) (h.now) (h.ded) (h.kps) (h.rdr) (⟨hR, trivial⟩) (h.aux))
theorem svr_ra {R : cR} : svr s (raS R s) := ⟨sv_r, rfl⟩
theorem mcl_len (h : Rel s m) {o : Option Nat} (ho : ∀ c, o = some c → c < 256) : (mcl' s n o).1.length + (mcl' s n o).2.2.2.2.2.2.length = 6 := by
  cases o with
  | none => exact h.asd.1
  | some c => exact casd_len h (ho c rfl)
theorem mrm_l {c : Nat} (hc : s.nw.2.2.1 < 256) : ∀ {z k b : Nat} {o : Option Nat}, (∀ c, o = some c → c < 256) → (mrm s i n z k b o).2 = some c → c < 256
  | 0, _, _, _, ho, e => ho c e
  | z + 1, k, b, o, ho, e => by
    have hnd : ∀ c, some (nd s.nw.2.2.1 k) = some c → c < 256 := fun c e => by cases e; exact Nat.lt_of_le_of_lt (nd_le _ _) hc
    unfold mrm at e
    split at e
    · split at e
      · exact mrm_l hc hnd e
      · exact mrm_l hc hnd e
    · exact mrm_l hc ho e
theorem msp_l {c : Nat} (hc : s.nw.2.2.1 < 256) : ∀ {z p : Nat} {o : Option Nat}, (∀ c, o = some c → c < 256) → (msp s i n z p o).2 = some c → c < 256
  | 0, _, _, ho, e => ho c e
  | z + 1, p, o, ho, e => by
    have hnd : ∀ c, some (nd s.nw.2.2.1 (2 ^ p)) = some c → c < 256 := fun c e => by cases e; exact Nat.lt_of_le_of_lt (nd_le _ _) hc
    unfold msp at e
    split at e
    · split at e
      · cases e; exact hnd _ rfl
      · exact msp_l hc hnd e
    · exact msp_l hc ho e
theorem w_remove (h : Rel s m) (hi : i < m.mc) (hn : n ≤ 20) (hbit : s.nw.2.1.testBit i = true) : ∃ s', ax_ev mi_C_remove [.ref 2, .int (nI i), .int (nI n)] (hp xs s τ) (some (.int (nI (ms_pop (mrm s i n s.nw.2.2.1 0 s.nw.2.2.1 none).1)))) (hp xs s' τ) ∧ Rel s' m ∧ svr s s' ∧ s'.td = nI (mrm s i n s.nw.2.2.1 0 s.nw.2.2.1 none).1 :=
  ⟨ctl (nI (mrm s i n s.nw.2.2.1 0 s.nw.2.2.1 none).1) (raS (mcl' s n (mrm s i n s.nw.2.2.1 0 s.nw.2.2.1 none).2) s), c_C_remove h hi hn hbit, rel_tl (rel_ra h (mcl_len h (fun c e => mrm_l h.gnw.1.1.2.2.2 (fun c e => by cases e) e))), ⟨sv_r, rfl⟩, rfl⟩
theorem w_spare (h : Rel s m) (hi : i < m.mc) (hn : n ≤ 20) (hbit : s.nw.2.1.testBit i = true) (hmore : 1 < ms_pop s.nw.2.2.1) : ∃ s', ax_ev mi_C_spare [.ref 2, .int (nI i), .int (nI n)] (hp xs s τ) (some (.int (oN (msp s i n 8 0 none).1))) (hp xs s' τ) ∧ Rel s' m ∧ svr s s' :=
  ⟨raS (mcl' s n (msp s i n 8 0 none).2) s, c_C_spare h hi hn hbit hmore, rel_ra h (mcl_len h (fun c e => msp_l h.gnw.1.1.2.2.2 (fun c e => by cases e) e)), ⟨sv_r, rfl⟩⟩
theorem mR_len (h : Rel s m) : ∀ {z p : Nat} {o : Option (Nat × Nat)} {R : cR}, R.1.length + R.2.2.2.2.2.2.length = 6 → (mR s i n z p o R).1.length + (mR s i n z p o R).2.2.2.2.2.2.length = 6
  | 0, _, _, _, hR => hR
  | z + 1, p, o, R, hR => by
    unfold mR
    refine mR_len h ?_
    split
    · exact (rra_ok h).2.2
    · exact hR
def rwS (k n : Nat) (B : List Int32) (s : cS) : cS := ((s.rw.1.set k (nI n), s.rw.2.set k B), s.tx, s.rm, s.rr, s.nx, s.mn, s.ru, s.nw, s.ra, s.dd, s.k0, s.k1, s.k2, s.fc, s.lf, s.td, s.tu, s.tl)
theorem rel_rwS {B : List Int32} (h : Rel s m) (hk : k < 6) (hn : n ≤ 40) (hB : B.length = 40) : Rel (rwS k n B s) m := (rel_mk (⟨rwl_new h.rws.1 hk hn hB, trivial⟩) (h.txs) (h.fnd) (h.tld) (h.frc) (h.mis) (h.gst) (h.gnw) (h.now) (h.ded) (h.kps) (h.rdr) (h.asd) (h.aux))
theorem w_reign (h : Rel s m) (hi : i < m.mc) (hn : n ≤ 3) (hbit : s.nw.2.1.testBit i = true) : ∃ s', ax_ev mi_C_reign [.ref 2, .int (nI i), .int (nI n), .int (nI 4)] (hp xs s τ) (some (.int (oF (mo s i n (6 ^ n) 0 none)))) (hp xs s' τ) ∧ Rel s' m ∧ sv s s' ∧ ∀ f b, mo s i n (6 ^ n) 0 none = some (f, b) → ig s'.rw.1 4 = nI n ∧ ∀ e, e < n → ig (s'.rw.2.getD 4 []) e = nI (dig b n e) := by
  have hRl := mR_len (i := i) (n := n) h (z := 6 ^ n) (p := 0) (o := none) h.asd.1
  obtain ⟨R, hR⟩ : ∃ R, mR s i n (6 ^ n) 0 none s.ra = R := ⟨_, rfl⟩
  rw [hR] at hRl
  cases hO : mo s i n (6 ^ n) 0 none with
  | none =>
    have g := c_C_reignN (xs := xs) (τ := τ) h hi hn (show 4 < 6 by omega) hbit hO hR
    exact ⟨raS R s, g, rel_ra h hRl, sv_r, fun f b e => by cases e⟩
  | some fb =>
    obtain ⟨f, b⟩ := fb
    have hlk := h.rws.1.2.2.1 4 (by omega)
    have g := c_C_reignS (xs := xs) (τ := τ) h hi hn (show 4 < 6 by omega) hbit hO hR
    have hB : (rgB s 4 n b).length = 40 := by unfold rgB; rw [msf_len, jd_fill_len (by omega) (by rw [hlk]; omega)]; exact hlk
    have hBa : ∀ e, e < n → ig (rgB s 4 n b) e = nI (dig b n e) := fun e he => by unfold rgB; exact msf_at he (by rw [jd_fill_len (by omega) (by rw [hlk]; omega), hlk]; omega)
    generalize rgB s 4 n b = B at *
    have h2 := rel_ra (s := rwS 4 n B s) (rel_rwS h (show 4 < 6 by omega) (show n ≤ 40 by omega) hB) hRl
    refine ⟨raS R (rwS 4 n B s), g, h2, sv_r, fun f' b' e => ?_⟩
    cases e
    refine ⟨?_, fun e he => ?_⟩
    · show ig (s.rw.1.set 4 (nI n)) 4 = nI n
      rw [ig_set (by rw [h.rws.1.1]; omega), if_pos rfl]
    · show ig ((s.rw.2.set 4 B).getD 4 []) e = _
      rw [gd_set (by rw [h.rws.1.2.1]; omega), if_pos rfl]
      exact hBa e he
theorem w_row (h : Rel s m) (hk : k < 6) (hn : n ≤ 40) : ax_ev mi_C_row [.ref 2, .int (nI k), .int (nI n)] (hp xs s τ) (some (.int (nI n))) (hp xs (rwS k n (jd_fill (s.rw.2.getD k []) (nI 0) 0 n) s) τ) := q_row h hk hn
theorem w_lay {y : Int32} (h : Rel s m) (hk : k < 6) (hm : ig s.rw.1 k = nI n) (hn : n ≤ 40) (hi : i < n) : ax_ev mi_C_lay [.ref 2, .int (nI k), .int (nI i), .int y] (hp xs s τ) (some (.int (nI 1))) (hp xs (layS k i y s) τ) := q_lay h hk hm hn hi
theorem w_at (h : Rel s m) (hk : k < 6) (hm : ig s.rw.1 k = nI n) (hn : n ≤ 40) (hi : i < n) : ax_ev mi_C_at [.ref 2, .int (nI k), .int (nI i)] (hp xs s τ) (some (.int (nI 1))) (hp xs (ctl (ig (s.rw.2.getD k []) i) s) τ) := q_at h hk hm hn hi
theorem w_atN (h : Rel s m) (hk : k < 6) (hm : ig s.rw.1 k = nI n) (hn : n ≤ 40) (hi : n ≤ i) (hi2 : i < 1000) : ax_ev mi_C_at [.ref 2, .int (nI k), .int (nI i)] (hp xs s τ) (some (.int (nm 3))) (hp xs (cfd 2 s) τ) := q_atN h hk hm hn hi hi2
theorem w_text (h : Rel s m) (hk : k < 4) (hn : n ≤ 60) : ax_ev mi_C_text [.ref 2, .int (nI k), .int (nI n)] (hp xs s τ) (some (.int (nI n))) (hp xs (textS k n s) τ) := q_text h hk hn
theorem w_put {y : Int32} (h : Rel s m) (hk : k < 4) (hm : ig s.tx.1 k = nI n) (hn : n ≤ 60) (hi : i < n) : ax_ev mi_C_put [.ref 2, .int (nI k), .int (nI i), .int y] (hp xs s τ) (some (.int (1000 + ig (s.tx.2.getD k []) i))) (hp xs (putS k i y.toInt8.toInt32 s) τ) := q_put h hk hm hn hi
theorem w_kinds (h : Rel s m) (hi : i < m.mc) (hk : k < 6) (hq : q ≤ 8) (hm : ig s.rw.1 k = nI (2 * q)) (hg : mgp (s.rw.2.getD k []) q 0 = true) : ax_ev mi_C_kinds [.ref 2, .int (nI i), .int (nI k)] (hp xs s τ) (some (.int (nI (mst (fk_kinds s i k q) 6)))) (hp xs s τ) := q_kinds h hi hk hq hm hg
theorem w_paces (h : Rel s m) (hi : i < m.mc) (hk : k < 6) (hq : q ≤ 8) (hm : ig s.rw.1 k = nI (2 * q)) (hg : mgp (s.rw.2.getD k []) q 0 = true) : ax_ev mi_C_paces [.ref 2, .int (nI i), .int (nI k)] (hp xs s τ) (some (.int (nI (mst (fk_paces s i k q) 4)))) (hp xs s τ) := q_paces h hi hk hq hm hg
theorem w_places (h : Rel s m) (hi : i < m.mc) (hk : k < 6) (hq : q ≤ 8) (hm : ig s.rw.1 k = nI (2 * q)) (hg : mgp (s.rw.2.getD k []) q 0 = true) : ax_ev mi_C_places [.ref 2, .int (nI i), .int (nI k)] (hp xs s τ) (some (.int (nI (mst (fk_places s i k q) 8)))) (hp xs s τ) := q_places h hi hk hq hm hg
theorem w_bribe (h : Rel s m) (hi : i < m.mc) (hn : n ≤ 3) (hbit : s.nw.2.1.testBit i = true) : ax_ev mi_C_bribe [.ref 2, .int (nI i), .int (nI n)] (hp xs s τ) (some (.int (nI (bz ((cit n (msbt s i (4 * n + 1))).testBit 0))))) (hp xs (asS (4 * n) s.nw.2.2.1 s) τ) := c_C_bribe h hi hn hbit
theorem w_odds (h : Rel s m) (hi : i < m.mc) (hn : n ≤ 6) (hp0 : p ≤ 12) (hbit : s.nw.2.1.testBit i = true) : ax_ev mi_C_odds [.ref 2, .int (nI i), .int (nI n), .int (nI p)] (hp xs s τ) (some (.int (nI 1))) (hp xs (mnS (some i) n p s) τ) := q_odds h hi hn hp0 hbit
theorem w_mid (h : Rel s m) (h0 : m.mc ≠ 0) (hn : n ≤ 6) (hp0 : p ≤ 12) : ax_ev mi_C_mid [.ref 2, .int (nI n), .int (nI p)] (hp xs s τ) (some (.int (nI 1))) (hp xs (mnS none n p s) τ) := q_mid h h0 hn hp0
theorem w_tune (h : Rel s m) (hk : k < 6) (hm : ig s.rw.1 k = nI n) (hn : n ≤ 40) (h0 : n ≠ 0) : ax_ev mi_C_tune [.ref 2, .int (nI k)] (hp xs s τ) (some (.int (oN (ms_tn (s.rw.2.getD k []) n 10 1)))) (hp xs (ctl (ms_td (s.rw.2.getD k []) n s.td (ms_tn (s.rw.2.getD k []) n 10 1)) s) τ) := c_C_tune h hk hm hn h0
theorem w_lots (h : Rel s m) (h0 : m.mc ≠ 0) (hn : 1 ≤ n) (hn2 : n ≤ 20) (hl : 1 ≤ l) (hl2 : l < 2147483647) (hd : s.dd.1.length + n ≤ 40) : ax_ev mi_C_lots [.ref 2, .int (nI n), .int (nI l)] (hp xs s τ) (some (.int (nI (ms_pop (lotS m.mc n l s).nw.2.1)))) (hp xs (lotS m.mc n l s) τ) := q_lots h h0 hn hn2 hl hl2 hd
end WW
