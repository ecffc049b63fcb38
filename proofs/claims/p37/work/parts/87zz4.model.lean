theorem oq_fd118a2d {a0 a1 a2 : Int} (h0 : a0 ≤ (3000 * a1)) (h1 : a1 = a2) (h2 : a2 ≤ 12) : a0 ≤ 2147483647 := by omega
theorem oq_8af9d5df {a0 : Int} (h0 : a0 ≠ 0) (h1 : 0 ≤ a0) : 0 ≤ (a0 - 1) := by omega
theorem oq_0c00f521 {a0 a1 a2 : Int} (h0 : a0 ≠ a1) (h1 : a2 ≤ (3000 * a0)) (h2 : 0 ≤ a2) (h3 : a0 ≤ a1) : (0 ≤ a0 ∧ a0 < a1) := by omega
/-! Mends: model, the search -/
theorem nmh_m {S : Int → Prop} {w : WyS} {mo mo' : Nat → Int} {n : Nat} {pc : Int} (h : ∀ x, x < n → mo x = mo' x) : nmH S w mo n pc = nmH S w mo' n pc := by
  have e1 : waH S w mo n = waH S w mo' n := sm_eq (fun x hx => by
    show i01 (viH S (w.1 x) (w.2 x)) * mo x = i01 (viH S (w.1 x) (w.2 x)) * mo' x
    rw [h x hx])
  have e2 : oaH S w mo n = oaH S w mo' n := sm_eq (fun x hx => by
    show mo x * ovH S (w.1 x) (w.2 x - 1).toNat = mo' x * ovH S (w.1 x) (w.2 x - 1).toNat
    rw [h x hx])
  have e3 : caH S w mo n = caH S w mo' n := sm_eq (fun x hx => by
    show mo x * clH S (w.1 x) (w.2 x - 1).toNat = mo' x * clH S (w.1 x) (w.2 x - 1).toNat
    rw [h x hx])
  have e4 : crH S w mo n = crH S w mo' n := sm_eq (fun a ha => sm_eq (fun b hb => by
    show (if a < b then mtW S (w.1 a) (w.1 b) (w.2 a) (w.2 b) * min (mo a) (mo b) else 0) = if a < b then mtW S (w.1 a) (w.1 b) (w.2 a) (w.2 b) * min (mo' a) (mo' b) else 0
    rw [h a ha, h b hb]))
  exact funext (fun j => by unfold nmH; rw [e1, e2, e3, e4])
theorem moc_k {U : AirD} {S : Int → Prop} {q x : Nat} {md h : Nat → Int} (hn : cHt (hitP U S q) (uN U) ≤ 8) (hh : ∀ x, x < uN U → hitP U S q x → h (cHt (hitP U S q) x) = md x) (hx : x < uN U) : moC U (PcH (hitP U S q) (cHt (hitP U S q) (uN U) : Int)) md q x = moK U S q (msI h 1 (cHt (hitP U S q) (uN U))) x := by
  by_cases p : hitP U S q x
  · have hl := cht_lt (P := hitP U S q) hx p
    have hb := msi_bt (h := h) (g := 1) (p := cHt (hitP U S q) x) (by omega) (cHt (hitP U S q) (uN U)) hn
    by_cases m : md x = 1
    · rw [mok_y p (hb.mpr ⟨hl, (hh x hx p).trans m⟩)]
      exact piq_n (fun y => y.2 m)
    · rw [mok_0 p (fun z => m ((hh x hx p).symm.trans (hb.mp z).2))]
      exact piq_y ⟨⟨p, by omega⟩, m⟩
  · rw [mok_n p]
    exact piq_n (fun y => p y.1.1)
theorem lf_eq {U : AirD} {S : Int → Prop} {q : Nat} {md h f lim : Nat → Int} {w : WyS} (hn : cHt (hitP U S q) (uN U) ≤ 8) (hh : ∀ x, x < uN U → hitP U S q x → h (cHt (hitP U S q) x) = md x) (hw : ∀ x, x < uN U → hitP U S q x → md x = 1 → zF U S x ≠ 0 ∧ w.2 x = zF U S x ∧ ∀ k : Nat, (k : Int) < w.2 x → w.1 x k = pF9 U S x k) (hm : ∀ x, x < uN U → 0 ≤ uM U q x) : fitQ (uC9 U (wyC U (PcH (hitP U S q) (cHt (hitP U S q) (uN U) : Int)) md w)) (moC U (PcH (hitP U S q) (cHt (hitP U S q) (uN U) : Int)) md q) f lim 8 ↔ fitK9 U S q f lim (msI h 1 (cHt (hitP U S q) (uN U))) := by
  have e : ∀ p : Nat, nmH (pcS f (p : Int)) (wyC U (PcH (hitP U S q) (cHt (hitP U S q) (uN U) : Int)) md w) (moC U (PcH (hitP U S q) (cHt (hitP U S q) (uN U) : Int)) md q) (uN U) 1 = nmH (pcS f (p : Int)) (wyF U S (hitP U S q)) (moK U S q (msI h 1 (cHt (hitP U S q) (uN U)))) (uN U) 1 := fun p => by
    rw [nmh_m (fun x hx => moc_k hn hh hx)]
    refine nmh_z (fun x hx => ?_)
    by_cases p : hitP U S q x
    · have hl := cht_lt (P := hitP U S q) hx p
      have hb := msi_bt (h := h) (g := 1) (p := cHt (hitP U S q) x) (by omega) (cHt (hitP U S q) (uN U)) hn
      by_cases m : md x = 1
      · obtain ⟨w1, w2, w3⟩ := hw x hx p m
        have hp : PcH (hitP U S q) (cHt (hitP U S q) (uN U) : Int) x ∧ md x = 1 := ⟨⟨p, by omega⟩, m⟩
        refine ⟨by rw [mok_y p (hb.mpr ⟨hl, (hh x hx p).trans m⟩)]; exact hm x hx, fun _ => ?_⟩
        rw [(wyc_y hp).1, (wyc_y hp).2, (wyf_r (P := hitP U S q) ⟨p, w1⟩).1]
        exact ⟨w2, fun k hk => by rw [(wyf_r (P := hitP U S q) ⟨p, w1⟩).2]; exact w3 k hk⟩
      · have z := mok_0 (k := msI h 1 (cHt (hitP U S q) (uN U))) p (fun z => m ((hh x hx p).symm.trans (hb.mp z).2))
        exact ⟨by rw [z]; exact Int.le_refl _, fun y => absurd z y⟩
    · have hp : ¬ (PcH (hitP U S q) (cHt (hitP U S q) (uN U) : Int) x ∧ md x = 1) := fun y => p y.1.1
      refine ⟨by rw [mok_n p]; exact hm x hx, fun _ => ?_⟩
      rw [(wyc_n hp).1, (wyc_n hp).2, (wyf_o (P := hitP U S q) (fun y => p y.1)).1]
      exact ⟨rfl, fun k _ => ((wyf_o (P := hitP U S q) (fun y => p y.1)).2 k).symm⟩
  constructor
  · intro z p hp hf
    have y := z p hp hf
    show (uL U (nmH (pcS f (p : Int)) (wyF U S (hitP U S q)) (moK U S q (msI h 1 (cHt (hitP U S q) (uN U)))) (uN U) 1)).toInt ≤ lim p
    rw [← e p]; exact y
  · intro z p hp hf
    have y := z p hp hf
    replace y : (uL U (nmH (pcS f (p : Int)) (wyF U S (hitP U S q)) (moK U S q (msI h 1 (cHt (hitP U S q) (uN U)))) (uN U) 1)).toInt ≤ lim p := y
    rw [← e p] at y; exact y
noncomputable def gt1 (mo rd : Nat → Int) (ft : Int → Prop) (n : Nat) (h : Nat → Int) (x : Nat) (y z w : Int) (B : MdO) : MdO := apB (rd x ≠ -1) (fun C => trB mo rd ft n (n - (x + 1)) (upH h x 1) (y + rd x) z w C) B
noncomputable def gt2 (mo rd : Nat → Int) (ft : Int → Prop) (n : Nat) (h : Nat → Int) (x : Nat) (y z w : Int) (B : MdO) : MdO := apB (0 < z) (fun C => trB mo rd ft n (n - (x + 1)) (upH h x 2) (y + 15 * mo x) (z - 1) w C) B
noncomputable def gt3 (mo rd : Nat → Int) (ft : Int → Prop) (n : Nat) (h : Nat → Int) (x : Nat) (y z w : Int) (B : MdO) : MdO := apB (0 < w) (fun C => trB mo rd ft n (n - (x + 1)) (upH h x 3) (y + 60 * mo x) z (w - 1) C) B
/-- the best so far ahead of the mend m -/
noncomputable def gtB (mo rd : Nat → Int) (ft : Int → Prop) (n : Nat) (h : Nat → Int) (x : Nat) (y z w : Int) (B : MdO) (m : Int) : MdO := if m = 1 then B else if m = 2 then gt1 mo rd ft n h x y z w B else if m = 3 then gt2 mo rd ft n h x y z w (gt1 mo rd ft n h x y z w B) else gt3 mo rd ft n h x y z w (gt2 mo rd ft n h x y z w (gt1 mo rd ft n h x y z w B))
theorem gt_e {mo rd : Nat → Int} {ft : Int → Prop} {n : Nat} {h : Nat → Int} {x : Nat} {y z w : Int} {B : MdO} (hx : x < n) (hl : lsB B y) : trB mo rd ft n (n - x) h y z w B = gtB mo rd ft n h x y z w B 4 := by
  rw [show n - x = n - (x + 1) + 1 by omega]
  refine (piq_y hl).trans ?_
  rw [show n - (n - (x + 1) + 1) = x by omega]
  rfl
abbrev mdM (s : PS) : Nat → Int := fun i => iC s 401 (iC s 400 i).toNat
def BSO9 (U : AirD) (P : Nat → Prop) : MdO → PS → Prop
  | none, s => iI s 106 = -1
  | some b, s => (iI s 106 = b.1 ∧ 0 ≤ b.1) ∧ (∀ j, j < cHt P (uN U) → iC s 402 (hAt P j) = b.2 j) ∧ ∀ x, x < uN U → ¬ P x → iC s 402 x = 0
theorem bso9_s {U : AirD} {P : Nat → Prop} {B : MdO} {s t : PS} (h : BSO9 U P B s) (e1 : iI t 106 = iI s 106) (e2 : SAM 402 s t) : BSO9 U P B t := by
  cases B with
  | none => exact e1.trans (show iI s 106 = -1 from h)
  | some b => exact ⟨⟨e1.trans h.1.1, h.1.2⟩, fun j hj => (e2 _).trans (h.2.1 j hj), fun x hx p => (e2 _).trans (h.2.2 x hx p)⟩
theorem bso9_l {U : AirD} {P : Nat → Prop} {B : MdO} {s : PS} {m : Int} (h : BSO9 U P B s) : lsB B m ↔ (iI s 106 = -1 ∨ m < iI s 106) := by
  cases B with
  | none => exact ⟨fun _ => Or.inl h, fun _ => trivial⟩
  | some b =>
    have z := h.1
    show m < b.1 ↔ _
    omega
/-- what stands in a search: who is hit, the ways round, what is full -/
def GTJ (U : AirD) (S : Int → Prop) (q : Nat) (ft : Int → Prop) (s : PS) : Prop := ((iI s 105 = (cHt (hitP U S q) (uN U) : Int) ∧ iI s 105 ≤ 8) ∧ HTQ (hitP U S q) (uN U) (fun j => iC s 400 j)) ∧ (∀ x, x < uN U → hitP U S q x → RNR S (fsA U x) (lsA U x) (iC s 403 x) (fun k => iC s (405 + x) k)) ∧ iI s 89 = 1 ∧ (q < 24 ∧ uN U ≤ 12 ∧ ∀ x, x < uN U → 0 ≤ uM U q x ∧ uM U q x ≤ 50) ∧ ft = fitK9 U S q (pfM s) (fun j => iC s 229 j)
theorem GTJ_fm {U : AirD} {S : Int → Prop} {q : Nat} {ft : Int → Prop} {L M : List Nat} {s t : PS} (F : Fm L M s t) (h : (105 ∉ L ∧ 89 ∉ L) ∧ (400 ∉ M ∧ 403 ∉ M ∧ 228 ∉ M ∧ 229 ∉ M) ∧ ∀ i, i < 12 → 405 + i ∉ M) (r : GTJ U S q ft s) : GTJ U S q ft t := by
  obtain ⟨⟨r1, r2⟩, r3, r4, r5, r6⟩ := r
  have hn := r5.2.1
  have e1 : iI t 105 = iI s 105 := fm_i F h.1.1
  have e2 : (fun j => iC t 400 j) = fun j => iC s 400 j := funext (fun j => fm_c F h.2.1.1)
  have e3 : pfM t = pfM s := funext (fun j => fm_c F h.2.1.2.2.1)
  have e4 : (fun j => iC t 229 j) = fun j => iC s 229 j := funext (fun j => fm_c F h.2.1.2.2.2)
  refine ⟨⟨by rw [e1]; exact r1, by rw [e2]; exact r2⟩, fun x hx p => ?_, (fm_i F h.1.2).trans r4, r5, by rw [e3, e4]; exact r6⟩
  rw [fm_c F h.2.1.2.1, show (fun k => iC t (405 + x) k) = fun k => iC s (405 + x) k from funext (fun k => fm_c F (h.2.2 x (by omega)))]
  exact r3 x hx p
def MZJ (U : AirD) (P : Nat → Prop) (s : PS) : Prop := ∀ x, x < uN U → ¬ P x → iC s 401 x = 0
theorem MZJ_fm {U : AirD} {P : Nat → Prop} {L M : List Nat} {s t : PS} (F : Fm L M s t) (h : 401 ∉ M) (r : MZJ U P s) : MZJ U P t := fun x hx p => (fm_c F h).trans (r x hx p)
/-- ahead of a call -/
def GTP (U : AirD) (P : Nat → Prop) (B : MdO) (x : Int) (s : PS) : Prop := BSO9 U P B s ∧ ∀ j : Nat, j < x.toNat → (1 ≤ mdM s j ∧ mdM s j ≤ 3) ∧ (mdM s j = 1 → iC s 403 (iC s 400 j).toNat ≠ 0)
def TSM (U : AirD) (P : Nat → Prop) (B : MdO) (x : Int) (s t : PS) : Prop := BSO9 U P B t ∧ ∀ j : Nat, j < x.toNat → mdM t j = mdM s j
def GTQ (U : AirD) (S : Int → Prop) (q : Nat) (ft : Int → Prop) (B : MdO) (x y z w : Int) (s t : PS) : Prop := TSM U (hitP U S q) (trB (hmoS U S q) (hrdS U S q) ft (cHt (hitP U S q) (uN U)) (cHt (hitP U S q) (uN U) - x.toNat) (mdM s) y z w B) x s t
theorem gtj_at {U : AirD} {S : Int → Prop} {q : Nat} {ft : Int → Prop} {s : PS} (h : GTJ U S q ft s) {j : Nat} (hj : j < cHt (hitP U S q) (uN U)) : iC s 400 j = (hAt (hitP U S q) j : Int) ∧ hAt (hitP U S q) j < uN U ∧ hitP U S q (hAt (hitP U S q) j) ∧ cHt (hitP U S q) (hAt (hitP U S q) j) = j := by
  obtain ⟨s1, s2, s3, s4, s5⟩ := htq_at h.1.2 hj
  rw [hat_eq s3 s4]
  exact ⟨s5, s2, s3, s4⟩
theorem gtq_no {U : AirD} {S : Int → Prop} {q : Nat} {ft : Int → Prop} {B : MdO} {x y z w : Int} {s : PS} (h : GTP U (hitP U S q) B x s) (hb : iI s 106 ≠ -1 ∧ iI s 106 ≤ y) : GTQ U S q ft B x y z w s s := by
  unfold GTQ
  rw [trb_no (fun k => by have := (bso9_l h.1).mp k; omega)]
  exact ⟨h.1, fun _ _ => rfl⟩
/-- all chosen: what the mended air needs -/
theorem gt_hmq {U : AirD} {S : Int → Prop} {q : Nat} {ft : Int → Prop} {B : MdO} {x : Int} {s : PS} (d : MDJ U s) (j : GTJ U S q ft s) (h : GTP U (hitP U S q) B x s) (hx : x = iI s 105) : HMQ U (hitP U S q) s := ⟨j.1.1, j.1.2, fun b hb p => by
  have hl := cht_lt (P := hitP U S q) hb p
  have e : iC s 400 (cHt (hitP U S q) b) = (b : Int) := j.1.2 b hb p
  have z := h.2 (cHt (hitP U S q) b) (by have := j.1.1.1; omega)
  unfold mdM at z
  rw [show (iC s 400 (cHt (hitP U S q) b)).toNat = b by omega] at z
  refine ⟨z.1, fun m => rnr_wok (j.2.1 b hb p) ?_ (z.2 m)⟩
  have w := d.2.2.1 b hb
  exact w.2.1 0 (by have := w.1; omega)⟩
theorem gt_md {U : AirD} {S : Int → Prop} {q : Nat} {ft : Int → Prop} {s : PS} (j : GTJ U S q ft s) : ∀ x, x < uN U → hitP U S q x → mdM s (cHt (hitP U S q) x) = MD9 s x := fun x hx p => by
  have e : iC s 400 (cHt (hitP U S q) x) = (x : Int) := j.1.2 x hx p
  show iC s 401 (iC s 400 (cHt (hitP U S q) x)).toNat = iC s 401 x
  rw [show (iC s 400 (cHt (hitP U S q) x)).toNat = x by omega]
theorem gt_rw {U : AirD} {S : Int → Prop} {q : Nat} {ft : Int → Prop} {B : MdO} {x : Int} {s : PS} (j : GTJ U S q ft s) (h : GTP U (hitP U S q) B x s) (hx : x = iI s 105) : ∀ x, x < uN U → hitP U S q x → MD9 s x = 1 → zF U S x ≠ 0 ∧ (RW9 s).2 x = zF U S x ∧ ∀ k : Nat, (k : Int) < (RW9 s).2 x → (RW9 s).1 x k = pF9 U S x k := fun b hb p m => by
  have r := rnz_eq (j.2.1 b hb p)
  have hl := cht_lt (P := hitP U S q) hb p
  have z := (h.2 (cHt (hitP U S q) b) (by have := j.1.1.1; omega)).2 ((gt_md j b hb p).trans m)
  have e : iC s 400 (cHt (hitP U S q) b) = (b : Int) := j.1.2 b hb p
  rw [show (iC s 400 (cHt (hitP U S q) b)).toNat = b by omega] at z
  have r1 : iC s 403 b = zF U S b := r.1
  exact ⟨by rw [← r1]; exact z, r1, r.2⟩
theorem gt_mdl {U : AirD} {w : WyS} {s t : PS} (d : MDJ U s) (e : iI t 90 = iI s 90) (l : LDM (uL U) t) (hk : ∀ x, x < uN U → WOK (w.1 x) (w.2 x)) : MDL (uC9 U w) t := ⟨⟨e.trans d.1.1, d.1.2⟩, hk, l⟩
theorem gt_wok {U : AirD} {P : Nat → Prop} {c : Int} {s : PS} (d : MDJ U s) (h : HMQ U P s) : ∀ x, x < uN U → WOK ((wyC U (PcH P c) (MD9 s) (RW9 s)).1 x) ((wyC U (PcH P c) (MD9 s) (RW9 s)).2 x) := fun x hx => by
  by_cases z : PcH P c x ∧ MD9 s x = 1
  · rw [(wyc_y z).1, (wyc_y z).2]; exact (h.2.2 x hx z.1.1).2 z.2
  · rw [(wyc_n z).1, (wyc_n z).2]; exact d.2.2.1 x hx
/-- all are chosen: kept or not -/
theorem gtq_0 {U : AirD} {S : Int → Prop} {q : Nat} {ft : Int → Prop} {B : MdO} {x y z w : Int} {s t : PS} (j : GTJ U S q ft s) (h : GTP U (hitP U S q) B x s) (hx : x = iI s 105) (hn : ¬ ft (msI (mdM s) 1 (cHt (hitP U S q) (uN U)))) (e1 : iI t 106 = iI s 106) (e2 : SAM 402 s t) (e3 : ∀ i, mdM t i = mdM s i) : GTQ U S q ft B x y z w s t := by
  unfold GTQ
  have en := j.1.1.1
  rw [show cHt (hitP U S q) (uN U) - x.toNat = 0 by omega]
  have e : trB (hmoS U S q) (hrdS U S q) ft (cHt (hitP U S q) (uN U)) 0 (mdM s) y z w B = B := piq_n (fun k => hn k.2)
  rw [e]
  exact ⟨bso9_s h.1 e1 e2, fun i _ => e3 i⟩
theorem gtq_1 {U : AirD} {S : Int → Prop} {q : Nat} {ft : Int → Prop} {B : MdO} {x y z w : Int} {s t : PS} (j : GTJ U S q ft s) (mz : MZJ U (hitP U S q) s) (h : GTP U (hitP U S q) B x s) (hx : x = iI s 105) (hf : ft (msI (mdM s) 1 (cHt (hitP U S q) (uN U)))) (hl : lsB B y) (y0 : 0 ≤ y) (e1 : iI t 106 = y) (e2 : ∀ x, x < 12 → iC t 402 x = iC s 401 x) (hn : uN U ≤ 12) (e3 : ∀ i, mdM t i = mdM s i) : GTQ U S q ft B x y z w s t := by
  unfold GTQ
  have en := j.1.1.1
  rw [show cHt (hitP U S q) (uN U) - x.toNat = 0 by omega]
  have e : trB (hmoS U S q) (hrdS U S q) ft (cHt (hitP U S q) (uN U)) 0 (mdM s) y z w B = some (y, trH (mdM s) (cHt (hitP U S q) (uN U))) := piq_y ⟨hl, hf⟩
  rw [e]
  refine ⟨⟨⟨e1, y0⟩, fun i hi => ?_, fun b hb p => (e2 b (by omega)).trans (mz b hb p)⟩, fun i _ => e3 i⟩
  obtain ⟨a1, a2, a3, a4⟩ := gtj_at j hi
  show iC t 402 (hAt (hitP U S q) i) = if i < cHt (hitP U S q) (uN U) then mdM s i else _
  rw [if_pos hi, e2 _ (by omega)]
  show _ = iC s 401 (iC s 400 i).toNat
  rw [a1]; rfl
theorem mdm_u {U : AirD} {S : Int → Prop} {q : Nat} {ft : Int → Prop} {x m : Int} {s t u : PS} (j : GTJ U S q ft t) (x0 : 0 ≤ x ∧ x < iI t 105) (m0 : 0 ≤ m ∧ m ≤ 3) (hs : ∀ i : Nat, i < x.toNat → mdM t i = mdM s i) (hu : u = uC t 401 (iC t 400 x.toNat).toNat (Int32.ofInt m)) : ∀ i : Nat, i < x.toNat + 1 → mdM u i = upH (mdM s) x.toNat m i := fun i hi => by
  have en := j.1.1.1
  have eh : iC u 400 i = iC t 400 i := eqC hu (iC_a (by decide))
  show iC u 401 (iC u 400 i).toNat = if i = x.toNat then m else mdM s i
  rw [eh]
  by_cases z : i = x.toNat
  · rw [if_pos z, z, hu]; exact iC_u ⟨by omega, by omega⟩
  · obtain ⟨a1, a2, a3, a4⟩ := gtj_at j (j := i) (by omega)
    obtain ⟨b1, b2, b3, b4⟩ := gtj_at j (j := x.toNat) (by omega)
    have ne : hAt (hitP U S q) i ≠ hAt (hitP U S q) x.toNat := fun w => z (by rw [← a4, ← b4, w])
    rw [if_neg z, hu, iC_n (by rw [a1, b1]; omega)]
    exact hs i (by omega)
/-- one mend tried -/
theorem tsm_call {U : AirD} {S : Int → Prop} {q : Nat} {ft : Int → Prop} {B : MdO} {x m y z w : Int} {s t u r : PS} (j : GTJ U S q ft t) (h : TSM U (hitP U S q) B x s t) (x0 : 0 ≤ x ∧ x < iI t 105) (m0 : 0 ≤ m ∧ m ≤ 3) (hu : u = uC t 401 (iC t 400 x.toNat).toNat (Int32.ofInt m)) (g : GTQ U S q ft B (x + 1) y z w u r) : TSM U (hitP U S q) (trB (hmoS U S q) (hrdS U S q) ft (cHt (hitP U S q) (uN U)) (cHt (hitP U S q) (uN U) - (x.toNat + 1)) (upH (mdM s) x.toNat m) y z w B) x s r := by
  have md := mdm_u j x0 m0 h.2 hu
  have en := j.1.1.1
  obtain ⟨g1, g2⟩ := g
  rw [show (x + 1).toNat = x.toNat + 1 by omega] at g1 g2
  have e : trB (hmoS U S q) (hrdS U S q) ft (cHt (hitP U S q) (uN U)) (cHt (hitP U S q) (uN U) - (x.toNat + 1)) (mdM u) y z w B = trB (hmoS U S q) (hrdS U S q) ft (cHt (hitP U S q) (uN U)) (cHt (hitP U S q) (uN U) - (x.toNat + 1)) (upH (mdM s) x.toNat m) y z w B := trb_c (fun _ _ => ⟨rfl, rfl⟩) _ (Nat.sub_le _ _) (fun i hi => md i (by omega))
  rw [e] at g1
  exact ⟨g1, fun i hi => by rw [g2 i (by omega), md i (by omega)]; exact if_neg (by omega)⟩
/-- ahead of the call -/
theorem gtp_in {U : AirD} {S : Int → Prop} {q : Nat} {ft : Int → Prop} {B B' : MdO} {x m : Int} {s t u : PS} (j : GTJ U S q ft t) (p : GTP U (hitP U S q) B' x s) (h : TSM U (hitP U S q) B x s t) (er : ∀ i, iC t 403 i = iC s 403 i) (eh : ∀ i, iC t 400 i = iC s 400 i) (x0 : 0 ≤ x ∧ x < iI t 105) (m0 : 1 ≤ m ∧ m ≤ 3) (hu : u = uC t 401 (iC t 400 x.toNat).toNat (Int32.ofInt m)) (h1 : m = 1 → iC t 403 (iC t 400 x.toNat).toNat ≠ 0) : GTP U (hitP U S q) B (x + 1) u := by
  have md := mdm_u j x0 (by omega) h.2 hu
  have e1 : iI u 106 = iI t 106 := eqI hu rfl
  have e2 : ∀ i, iC u 400 i = iC t 400 i := fun i => by rw [hu]; exact iC_a (by decide)
  have e3 : ∀ i, iC u 403 i = iC t 403 i := fun i => by rw [hu]; exact iC_a (by decide)
  refine ⟨bso9_s h.1 e1 (fun i => by rw [hu]; exact iC_a (by decide)), fun i hi => ?_⟩
  rw [show (x + 1).toNat = x.toNat + 1 by omega] at hi
  rw [md i hi, e3, e2]
  by_cases z : i = x.toNat
  · rw [z, show upH (mdM s) x.toNat m x.toNat = m from if_pos rfl]
    exact ⟨m0, h1⟩
  · rw [show upH (mdM s) x.toNat m i = mdM s i from if_neg z, er, eh]
    exact p.2 i (by omega)
theorem gtp_fm {U : AirD} {P : Nat → Prop} {B : MdO} {x : Int} {L M : List Nat} {s t : PS} (F : Fm L M s t) (h : 106 ∉ L ∧ 402 ∉ M ∧ 401 ∉ M ∧ 400 ∉ M ∧ 403 ∉ M) (p : GTP U P B x s) : GTP U P B x t := by
  have e1 : ∀ j, iC t 400 j = iC s 400 j := fun j => fm_c F h.2.2.2.1
  have e2 : ∀ j, iC t 401 j = iC s 401 j := fun j => fm_c F h.2.2.1
  have e3 : ∀ j, iC t 403 j = iC s 403 j := fun j => fm_c F h.2.2.2.2
  refine ⟨bso9_s p.1 (fm_i F h.1) (fun i => fm_c F h.2.1), fun j hj => ?_⟩
  show (1 ≤ iC t 401 (iC t 400 j).toNat ∧ iC t 401 (iC t 400 j).toNat ≤ 3) ∧ (iC t 401 (iC t 400 j).toNat = 1 → iC t 403 (iC t 400 j).toNat ≠ 0)
  rw [e1, e2, e3]
  exact p.2 j hj
theorem gtq_s {U : AirD} {S : Int → Prop} {q : Nat} {ft : Int → Prop} {B : MdO} {x y z w : Int} {a b r : PS} (e : ∀ j, mdM a j = mdM b j) (h : GTQ U S q ft B x y z w a r) : GTQ U S q ft B x y z w b r := by
  have e' : mdM b = mdM a := funext (fun j => (e j).symm)
  unfold GTQ at h ⊢
  rw [e']
  exact ⟨h.1, fun j hj => (h.2 j hj).trans (e j)⟩
theorem hrd_z {U : AirD} {S : Int → Prop} {q : Nat} {ft : Int → Prop} {s : PS} (j : GTJ U S q ft s) {x : Nat} (hx : x < cHt (hitP U S q) (uN U)) (hm : ∀ b, b < uN U → 0 ≤ uM U q b) : (iC s 403 (iC s 400 x).toNat = 0 ↔ hrdS U S q x = -1) ∧ (iC s 403 (iC s 400 x).toNat ≠ 0 → hrdS U S q x = 2 * (if 0 < iC s 403 (iC s 400 x).toNat - (uW U).2 (iC s 400 x).toNat then iC s 403 (iC s 400 x).toNat - (uW U).2 (iC s 400 x).toNat else 0) * uM U q (iC s 400 x).toNat) := by
  obtain ⟨a1, a2, a3, a4⟩ := gtj_at j hx
  have r := (rnz_eq (j.2.1 _ a2 a3)).1
  replace r : iC s 403 (hAt (hitP U S q) x) = zF U S (hAt (hitP U S q) x) := r
  rw [a1, show ((hAt (hitP U S q) x : Nat) : Int).toNat = hAt (hitP U S q) x by omega, r]
  unfold hrdS rdX
  by_cases c : zF U S (hAt (hitP U S q) x) = 0
  · rw [piq_y c]
    exact ⟨⟨fun _ => rfl, fun _ => c⟩, fun w => absurd c w⟩
  · rw [piq_n c]
    refine ⟨⟨fun w => absurd w c, fun w => ?_⟩, fun _ => rfl⟩
    have m := hm _ a2
    exfalso
    by_cases d : 0 < zF U S (hAt (hitP U S q) x) - (uW U).2 (hAt (hitP U S q) x)
    · rw [if_pos d] at w
      have := Int.mul_nonneg (show 0 ≤ 2 * (zF U S (hAt (hitP U S q) x) - (uW U).2 (hAt (hitP U S q) x)) by omega) m
      omega
    · rw [if_neg d] at w
      simp at w
theorem hmo_at {U : AirD} {S : Int → Prop} {q : Nat} {ft : Int → Prop} {s : PS} (j : GTJ U S q ft s) {x : Nat} (hx : x < cHt (hitP U S q) (uN U)) : hmoS U S q x = uM U q (iC s 400 x).toNat := by
  obtain ⟨a1, a2, a3, a4⟩ := gtj_at j hx
  rw [a1]; rfl
theorem mdm_fm {L M : List Nat} {s t : PS} (F : Fm L M s t) (h : 401 ∉ M ∧ 400 ∉ M) : ∀ i, mdM t i = mdM s i := fun i => by
  show iC t 401 (iC t 400 i).toNat = iC s 401 (iC s 400 i).toNat
  rw [fm_c F h.2, fm_c F h.1]
theorem mzj_u {U : AirD} {S : Int → Prop} {q : Nat} {ft : Int → Prop} {x : Int} {v : Int32} {t u : PS} (j : GTJ U S q ft t) (x0 : 0 ≤ x ∧ x < iI t 105) (h : MZJ U (hitP U S q) t) (hu : u = uC t 401 (iC t 400 x.toNat).toNat v) : MZJ U (hitP U S q) u := fun b hb p => by
  obtain ⟨b1, b2, b3, b4⟩ := gtj_at j (j := x.toNat) (by have := j.1.1.1; omega)
  rw [hu, iC_n (fun w => p (by rw [w, b1]; exact b3))]
  exact h b hb p
theorem tsm_off {U : AirD} {S : Int → Prop} {q : Nat} {ft : Int → Prop} {B : MdO} {x : Int} {s t u : PS} (j : GTJ U S q ft t) (h : TSM U (hitP U S q) B x s t) (x0 : 0 ≤ x ∧ x < iI t 105) (hu : u = uC t 401 (iC t 400 x.toNat).toNat (Int32.ofInt 0)) : TSM U (hitP U S q) B x s u := by
  have md := mdm_u j x0 (m := 0) (by omega) h.2 hu
  refine ⟨bso9_s h.1 (by rw [hu]; rfl) (fun i => by rw [hu]; exact iC_a (by decide)), fun i hi => ?_⟩
  rw [md i (by omega)]; exact if_neg (by omega)
section GTB
variable {mo rd : Nat → Int} {ft : Int → Prop} {n : Nat} {h : Nat → Int} {x : Nat} {y z w : Int} {B : MdO}
theorem gtb_1 (c : rd x ≠ -1) : gtB mo rd ft n h x y z w B 2 = trB mo rd ft n (n - (x + 1)) (upH h x 1) (y + rd x) z w (gtB mo rd ft n h x y z w B 1) := by unfold gtB; rw [if_neg (by decide), if_pos rfl, if_pos rfl]; exact ap_y c
theorem gtb_1n (c : ¬ rd x ≠ -1) : gtB mo rd ft n h x y z w B 2 = gtB mo rd ft n h x y z w B 1 := by unfold gtB; rw [if_neg (by decide), if_pos rfl, if_pos rfl]; exact ap_n c
theorem gtb_2 (c : 0 < z) : gtB mo rd ft n h x y z w B 3 = trB mo rd ft n (n - (x + 1)) (upH h x 2) (y + 15 * mo x) (z - 1) w (gtB mo rd ft n h x y z w B 2) := by unfold gtB; rw [if_neg (by decide), if_neg (by decide), if_pos rfl, if_neg (by decide), if_pos rfl]; exact ap_y c
theorem gtb_2n (c : ¬ 0 < z) : gtB mo rd ft n h x y z w B 3 = gtB mo rd ft n h x y z w B 2 := by unfold gtB; rw [if_neg (by decide), if_neg (by decide), if_pos rfl, if_neg (by decide), if_pos rfl]; exact ap_n c
theorem gtb_3 (c : 0 < w) : gtB mo rd ft n h x y z w B 4 = trB mo rd ft n (n - (x + 1)) (upH h x 3) (y + 60 * mo x) z (w - 1) (gtB mo rd ft n h x y z w B 3) := by unfold gtB; rw [if_neg (by decide), if_neg (by decide), if_neg (by decide), if_neg (by decide), if_neg (by decide), if_pos rfl]; exact ap_y c
theorem gtb_3n (c : ¬ 0 < w) : gtB mo rd ft n h x y z w B 4 = gtB mo rd ft n h x y z w B 3 := by unfold gtB; rw [if_neg (by decide), if_neg (by decide), if_neg (by decide), if_neg (by decide), if_neg (by decide), if_pos rfl]; exact ap_n c
end GTB
section M87lc
variable {l : Launch} {s0 : State} {D : va_G} {tys : List (ClassId × FieldType)} {a0 : Array Value} {A : Nat → Nat} {dT : Nat → ClassId} {s : PS}
set_option maxRecDepth 4000 in
theorem k_go90 (G : GX l s0 D tys a0 dT) {U : AirD} {S : Int → Prop} {qn : Nat} {ft : Int → Prop} {B : MdO} (I : Bd s) (jRLx : RLx s) (jMDJ : MDJ U s) (jGTJ : GTJ U S qn ft s) (jMZJ : MZJ U (hitP U S qn) s) {x y z w u : Int} (p0 : 0 ≤ x ∧ x ≤ iI s 105) (p1 : iI s 105 - x ≤ ((0 : Nat) : Int)) (p2 : iI s 105 ≤ 8) (p3 : y = (qn : Int)) (p4 : 0 ≤ y ∧ y ≤ 23) (p5 : 0 ≤ z ∧ z ≤ 8) (p6 : 0 ≤ w ∧ w ≤ 8) (p7 : 0 ≤ u ∧ u ≤ 3000 * x) (p8 : GTP U (hitP U S qn) B x s) : CT l s0 D A dT 285 (rkR (52 + (0))) [.ref (A 179), .int (Int32.ofInt x), .int (Int32.ofInt y), .int (Int32.ofInt z), .int (Int32.ofInt w), .int (Int32.ofInt u)] s (fun o t => Bd t ∧ Fm [77, 75, 78, 79, 80, 81, 106] [202, 204, 205, 206, 207, 208, 209, 210, 211, 212, 213, 214, 215, 216, 217, 218, 219, 220, 221, 222, 223, 224, 225, 226, 227, 203, 161, 230, 401, 402] s t ∧ RLx t ∧ MZJ U (hitP U S qn) t ∧ o = .inl none ∧ (GTQ U S qn ft B x u z w s t)) := by
  refine ct_of G (by decide) (Nat.le_of_ble_eq_true rfl) (fun k X E hRt hXt q => ?_)
  show WS k 0 [(0, .ref (A 179)), (1, .int (Int32.ofInt x)), (2, .int (Int32.ofInt y)), (3, .int (Int32.ofInt z)), (4, .int (Int32.ofInt w)), (5, .int (Int32.ofInt u))] [] _ 0 0
  have F : Fm [77, 75, 78, 79, 80, 81, 106] [202, 204, 205, 206, 207, 208, 209, 210, 211, 212, 213, 214, 215, 216, 217, 218, 219, 220, 221, 222, 223, 224, 225, 226, 227, 203, 161, 230, 401, 402] s s := fm_rf _ _ s
  have b1 := bi_105 I
  have b2 := bi_106 I
  have b3 := bi_89 I
  have b4 := bi_90 I
  have L48 : ∀ (n : Nat) (t : PS) (c : Int), Bd t → Fm [77, 75, 78, 79, 80, 81, 106] [202, 204, 205, 206, 207, 208, 209, 210, 211, 212, 213, 214, 215, 216, 217, 218, 219, 220, 221, 222, 223, 224, 225, 226, 227, 203, 161, 230, 401, 402] s t → RLx t → ((∀ x : Nat, x < 12 → (x : Int) < c → iC t 402 x = iC s 401 x) ∧ SAM 401 s t) → ((0 ≤ c ∧ c ≤ 12) ∧ iI t 106 = u) → (12 - c : Int).toNat < n → (∀ (t' : PS) (c' : Int), Bd t' → Fm [77, 75, 78, 79, 80, 81, 106] [202, 204, 205, 206, 207, 208, 209, 210, 211, 212, 213, 214, 215, 216, 217, 218, 219, 220, 221, 222, 223, 224, 225, 226, 227, 203, 161, 230, 401, 402] s t' → RLx t' → ((∀ x : Nat, x < 12 → (x : Int) < c' → iC t' 402 x = iC s 401 x) ∧ SAM 401 s t') → (c' = 12 ∧ iI t' 106 = u) → WS k 75 [(0, .ref (A 179)), (6, .int (Int32.ofInt c'))] [] (Wd A dT t') 0 0) → WS k 48 [(0, .ref (A 179)), (6, .int (Int32.ofInt c))] [] (Wd A dT t) 0 0 := by
    intro n
    induction n with
    | zero =>
      intro t c I F jjRLx hq hi hm kx
      exact absurd hm (Nat.not_lt_zero _)
    | succ n ih =>
      intro t c I F jjRLx hq hi hm kx
      have b1001 := bi_105 I
      have b1002 := bi_106 I
      have b1003 := bi_89 I
      have b1004 := bi_90 I
      refine z_load X (x := c) rfl (List.Mem.tail _ (List.Mem.head _)) (z_bipush X rfl (z_icmp_ge X (t := 75) rfl rfl ⟨by first | exact oq_fa4e5087 hi.1.1 | omega, by first | exact oq_78843a64 hi.1.2 | omega⟩ (by decide) (fun g1005 => ?_) (fun g1005 => ?_)))
      ·
        refine WS_pq [0, 1] (lv' := [(0, .ref (A 179)), (6, .int (Int32.ofInt c))]) rfl ?_
        exact kx _ c I F jjRLx hq (by first | exact ⟨oq_8e7d85da hi.1.2 g1005, hi.2⟩ | omega)
      ·
        refine z_aload_n X (x := A 179) rfl (List.Mem.head _) (s_getR X 179 rfl (c518_ok rfl) rfl rfl (z_load X (x := c) rfl (List.Mem.tail _ (List.Mem.head _)) (z_aload_n X (x := A 179) rfl (List.Mem.head _) (s_getR X 179 rfl (c518_ok rfl) rfl rfl (z_load X (x := c) rfl (List.Mem.tail _ (List.Mem.head _)) (z_ald X 456 rfl (c518_ok rfl) rfl (by first | exact hi.1.1 | omega) (show c < 12 by first | exact g1005 | omega) (cbig_ok rfl) ?_))))))
        have b1006 := bc_401 I (show (c).toNat < 12 by first | exact oq_d855cead g1005 | omega)
        refine z_ast X 457 rfl (c518_ok rfl) rfl (by first | exact hi.1.1 | omega) (show c < 12 by first | exact g1005 | omega) (cbig_ok rfl) (wd_gen (fun s1007 hs1007 => ?_))
        have Is1007 : Bd s1007 := eqB hs1007 (bd_C I (show (0 : Int) ≤ (iC t 401 (c).toNat) ∧ (iC t 401 (c).toNat) ≤ 3 by first | exact ⟨b1006.1, b1006.2⟩ | omega) (rng_to _))
        have Fs1007 := eqF hs1007 (fm_C F (inl_ok (a := 402) rfl))
        have ws1007_105 : iI s1007 105 = iI t 105 := eqI hs1007 rfl
        have ws1007_106 : iI s1007 106 = iI t 106 := eqI hs1007 rfl
        have ws1007_89 : iI s1007 89 = iI t 89 := eqI hs1007 rfl
        have ws1007_90 : iI s1007 90 = iI t 90 := eqI hs1007 rfl
        have fs1007 : Fm [] [402] t s1007 := by rw [hs1007]; exact fm_C (fm_rf _ _ _) (show 402 ∈ _ by decide)
        have JRLx_s1007 : RLx s1007 := RLx_fm fs1007 (by decide) jjRLx
        refine z_inc X (x := c) (lv' := [(6, .int (Int32.ofInt (c + 1))), (0, .ref (A 179))]) rfl (by decide) (List.Mem.tail _ (List.Mem.head _)) (fun _ h => h) (z_goto X (t := 48) rfl rfl (WS_pq [1, 0] (lv' := [(0, .ref (A 179)), (6, .int (Int32.ofInt (c + 1)))]) rfl ?_))
        exact ih _ (c + 1) Is1007 Fs1007 JRLx_s1007 ⟨fun x hx h => by by_cases e : x = (c : Int).toNat; (· rw [e, hs1007, iC_u ⟨by omega, by omega⟩]; exact hq.2 _); (· rw [hs1007, iC_n e]; exact hq.1 x hx (by omega)), fun i => by rw [hs1007, iC_a (by decide)]; exact hq.2 i⟩ (by first | exact ⟨And.intro (oq_54f49eb5 hi.1.1) (oq_6a25a379 g1005), oq_1aa5be9e ws1007_106 hi.2⟩ | omega) (by first | exact qk_me hm (by decide) (oq_ab2484cf g1005) | omega) kx
  refine z_aload_n X (x := A 179) rfl (List.Mem.head _) (z_getI X 179 rfl (c518_ok rfl) rfl rfl ?_)
  have b5 := bi_106 I
  refine z_const X rfl (z_icmp_eq X (t := 18) rfl rfl (rng_to _) (by decide) (fun g6 => ?_) (fun g6 => ?_))
  ·
    have hl : lsB B u := (bso9_l p8.1).mpr (by omega)
    have hg1 := jGTJ.1.1.1
    have hg2 := jGTJ.2.2.1
    have hg3 := jGTJ.2.2.2.1
    have hyq : (y : Int).toNat = qn := by omega
    refine z_load_n X (x := x) rfl (List.Mem.tail _ (List.Mem.head _)) (z_aload_n X (x := A 179) rfl (List.Mem.head _) (z_getI X 179 rfl (c518_ok rfl) rfl rfl ?_))
    have b7 := bi_105 I
    refine z_icmp_ne X (t := 76) rfl rfl ⟨by first | exact oq_fa4e5087 p0.1 | omega, by first | exact oq_39d2cc6e p0.2 b7.2 | omega⟩ (rng_to _) (fun g8 => ?_) (fun g8 => ?_)
    ·
      exfalso
      omega
    ·
      have hHQ := gt_hmq jMDJ jGTJ p8 (by omega)
      have hWK := gt_wok (c := ((cHt (hitP U S qn) (uN U)) : Int)) jMDJ hHQ
      refine z_aload_n X (x := A 179) rfl (List.Mem.head _) (z_load_n X (x := y) rfl (List.Mem.tail _ (List.Mem.tail _ (List.Mem.head _))) (z_callV X 179 (rm := rmN 284) (As := [.int (Int32.ofInt y)]) (st := []) rfl rfl (by decide) rfl (by rw [E.1, E.2.1, E.2.2.1]; exact k_asMended9 G I jRLx jMDJ (by first | exact ⟨p4.1, p4.2⟩ | omega) (hHQ)) ⟨by rw [E.2.2.2]; exact (show 10 + 1 ≤ (12 + (52 + (0))) from oq_a4cf3503), by rw [E.2.2.2]; exact (show 8 + (5 + 11) + 189 ≤ (500 + 45 * (52 + (0))) from oq_4290aa94), by rw [E.2.2.2]; exact Nat.le_refl 0, by rw [E.2.2.2]; exact Nat.le_refl 0⟩ (Nat.le_of_ble_eq_true rfl) (fun vv s9 hq => ?_) (fun ee s9 hq => ?_)))
      rotate_left
      · obtain ⟨Is9, Fs9, JRLx_s9, hv, hps9⟩ := hq; cases hv
      obtain ⟨Is9, Fs9, JRLx_s9, hv, hps9⟩ := hq
      cases hv
      have Gs9 := fm_tq F Fs9 rfl rfl
      have JRLx_s9 : RLx s9 := RLx_fm Fs9 (by decide) jRLx
      have JMDJ_s9 : MDJ U s9 := MDJ_fm Fs9 (by decide) jMDJ
      have JMZJ_s9 : MZJ U (hitP U S qn) s9 := MZJ_fm Fs9 (by decide) jMZJ
      have ws9_105 : iI s9 105 = iI s 105 := fm_iq Fs9 rfl
      have ws9_106 : iI s9 106 = iI s 106 := fm_iq Fs9 rfl
      have ws9_89 : iI s9 89 = iI s 89 := fm_iq Fs9 rfl
      have ws9_90 : iI s9 90 = iI s 90 := fm_iq Fs9 rfl
      show WS k 31 [(0, .ref (A 179)), (1, .int (Int32.ofInt x)), (2, .int (Int32.ofInt y)), (3, .int (Int32.ofInt z)), (4, .int (Int32.ofInt w)), (5, .int (Int32.ofInt u))] [] (Wd A dT s9) 0 0
      have hst1 : iI s9 90 = iI s 90 := fm_iq Fs9 rfl
      have hAE := am_e (by have zz := hps9; rw [hyq, hg1] at zz; exact zz) ⟨hst1.trans jMDJ.1.1, jMDJ.1.2⟩ hWK
      have hML : MDL (uC9 U (wyC U (PcH (hitP U S qn) ((cHt (hitP U S qn) (uN U)) : Int)) (MD9 s) (RW9 s))) s9 := gt_mdl jMDJ hst1 JMDJ_s9.2.2.2.2.2.2 hWK
      refine z_aload_n X (x := A 179) rfl (List.Mem.head _) (z_callV X 179 (rm := rmN 283) (As := []) (st := []) rfl rfl (by decide) rfl (by rw [E.1, E.2.1, E.2.2.1]; exact k_noneFull9 G Is9 hAE.1 hAE.2.1 hML hAE.2.2.1 hAE.2.2.2 (by omega)) ⟨by rw [E.2.2.2]; exact (show 37 + 1 ≤ (12 + (52 + (0))) from oq_d960365c), by rw [E.2.2.2]; exact (show 8 + (2 + 11) + 1578 ≤ (500 + 45 * (52 + (0))) from oq_e5119b40), by rw [E.2.2.2]; exact Nat.le_refl 0, by rw [E.2.2.2]; exact Nat.le_refl 0⟩ (Nat.le_of_ble_eq_true rfl) (fun vv s11 hq => ?_) (fun ee s11 hq => ?_))
      rotate_left
      · obtain ⟨Is11, Fs11, e12, hv, hrs11, hps11⟩ := hq; cases hv
      obtain ⟨Is11, Fs11, e12, hv, hrs11, hps11⟩ := hq
      cases hv
      have Gs11 := fm_tq Gs9 Fs11 rfl rfl
      have JRLx_s11 : RLx s11 := RLx_fm Fs11 (by decide) JRLx_s9
      have JMZJ_s11 : MZJ U (hitP U S qn) s11 := MZJ_fm Fs11 (by decide) JMZJ_s9
      have ws11_105 : iI s11 105 = iI s9 105 := fm_iq Fs11 rfl
      have ws11_106 : iI s11 106 = iI s9 106 := fm_iq Fs11 rfl
      have ws11_89 : iI s11 89 = iI s9 89 := fm_iq Fs11 rfl
      have ws11_90 : iI s11 90 = iI s9 90 := fm_iq Fs11 rfl
      show WS k 35 [(0, .ref (A 179)), (1, .int (Int32.ofInt x)), (2, .int (Int32.ofInt y)), (3, .int (Int32.ofInt z)), (4, .int (Int32.ofInt w)), (5, .int (Int32.ofInt u))] [.int (Int32.ofInt e12)] (Wd A dT s11) 0 0
      have hLF := lf_eq (f := pfM s) (lim := fun j => iC s 229 j) (by first | (clear hps11; omega) | omega) (gt_md jGTJ) (gt_rw jGTJ p8 (by first | (clear hps11; omega) | omega)) (fun b hb => (hg3.2.2 b hb).1)
      have hFF := hps11
      rw [show pfM s9 = pfM s from funext (fun j => fm_c Gs9 (by decide)), show (fun j => iC s9 229 j) = (fun j => iC s 229 j) from funext (fun j => fm_c Gs9 (by decide))] at hFF
      have hFT : ft (msI (mdM s) 1 (cHt (hitP U S qn) (uN U))) = fitK9 U S qn (pfM s) (fun j => iC s 229 j) (msI (mdM s) 1 (cHt (hitP U S qn) (uN U))) := congrFun jGTJ.2.2.2.2 _
      refine z_if_ne X (t := 39) rfl rfl hrs11 (fun g13 => ?_) (fun g13 => ?_)
      ·
        have hf : ft (msI (mdM s) 1 (cHt (hitP U S qn) (uN U))) := by rw [hFT]; exact hFF.elim (fun zz => hLF.mp zz.2) (fun zz => absurd zz.1 (by first | (clear g13 hps11; omega) | (clear hps11; omega) | omega))
        refine z_aload_n X (x := A 179) rfl (List.Mem.head _) (z_load X (x := u) rfl (List.Mem.tail _ (List.Mem.tail _ (List.Mem.tail _ (List.Mem.tail _ (List.Mem.tail _ (List.Mem.head _)))))) (s_putI X 179 rfl (c518_ok rfl) rfl rfl (by decide) rfl rfl rfl (wd_gen (fun s14 hs14 => ?_))))
        have Is14 : Bd s14 := eqB hs14 (bd_I Is11 (show ((-2147483648) : Int) ≤ u ∧ u ≤ 2147483647 by first | exact ⟨oq_fa4e5087 p7.1, oq_fd118a2d p7.2 g8 b7.2⟩ | omega) ⟨by first | exact oq_fa4e5087 p7.1 | omega, by first | exact oq_fd118a2d p7.2 g8 b7.2 | omega⟩)
        have Fs14 := eqF hs14 (fm_I Gs11 (inl_ok (a := 106) rfl))
        have vs14 : iI s14 106 = u := eqI hs14 (iI_u ⟨by first | exact oq_fa4e5087 p7.1 | omega, by first | exact oq_fd118a2d p7.2 g8 b7.2 | omega⟩)
        have ws14_105 : iI s14 105 = iI s11 105 := eqI hs14 rfl
        have ws14_89 : iI s14 89 = iI s11 89 := eqI hs14 rfl
        have ws14_90 : iI s14 90 = iI s11 90 := eqI hs14 rfl
        have fs14 : Fm [106] [] s11 s14 := by rw [hs14]; exact fm_I (fm_rf _ _ _) (show 106 ∈ _ by decide)
        have JRLx_s14 : RLx s14 := RLx_fm fs14 (by decide) JRLx_s11
        refine z_const X rfl (z_store X (lv' := [(6, .int (Int32.ofInt 0)), (0, .ref (A 179)), (1, .int (Int32.ofInt x)), (2, .int (Int32.ofInt y)), (3, .int (Int32.ofInt z)), (4, .int (Int32.ofInt w)), (5, .int (Int32.ofInt u))]) rfl (by decide) (fun _ h => h) (WS_pq [1, 0] (lv' := [(0, .ref (A 179)), (6, .int (Int32.ofInt 0))]) rfl (L48 ((12 - 0 : Int).toNat + 1) s14 0 Is14 Fs14 JRLx_s14 ⟨fun x _ h => absurd h (by first | (clear g13 hps11; omega) | (clear hps11; omega) | omega), fun i => (show iC s14 401 i = iC s11 401 i by rw [hs14]; rfl).trans ((fm_c Fs11 (by decide)).trans (fm_c Fs9 (by decide)))⟩ (by first | exact ⟨And.intro (by decide) (by decide), vs14⟩ | omega) (Nat.lt_succ_self _) ?_)))
        intro s15 x16 Is15 Fs15 JRLx_s15 Qs15 hs15
        have b17 := bi_105 Is15
        have b18 := bi_106 Is15
        have b19 := bi_89 Is15
        have b20 := bi_90 Is15
        have hMZ : MZJ U (hitP U S qn) s15 := fun b hb p => (Qs15.2 b).trans (jMZJ b hb p)
        exact w_vret X.1 q hRt (ax_d X (show cdA 285 75 = some (.return_, 1, 0, 0, 0) from rfl)) (Nat.zero_le _) (Nat.zero_le _) ⟨_, rfl, Is15, Fs15, JRLx_s15, hMZ, rfl, (gtq_1 jGTJ jMZJ p8 (by first | (clear g13 hps11; omega) | (clear hps11; omega) | omega) hf hl (by first | (clear g13 hps11; omega) | (clear hps11; omega) | omega) (by first | (clear g13 hps11; omega) | (clear hps11; omega) | omega) (fun x hx => Qs15.1 x hx (by first | (clear g13 hps11; omega) | (clear hps11; omega) | omega)) jMDJ.1.2 (fun i => by show iC s15 401 (iC s15 400 i).toNat = _; rw [Qs15.2, show iC s15 400 i = iC s 400 i from fm_c Fs15 (by decide)]))⟩
      ·
        exact w_vret X.1 q hRt (ax_d X (show cdA 285 38 = some (.return_, 1, 0, 0, 0) from rfl)) (Nat.zero_le _) (Nat.zero_le _) ⟨_, rfl, Is11, Gs11, JRLx_s11, JMZJ_s11, rfl, (gtq_0 jGTJ p8 (by first | (clear hps11; omega) | omega) (by rw [hFT]; exact hFF.elim (fun zz => absurd zz.1 (by first | (clear hps11; omega) | omega)) (fun zz w => zz.2 (hLF.mpr w))) (by first | (clear hps11; omega) | omega) (sam_ts (sam_fm Fs9 (by decide)) (sam_fm Fs11 (by decide))) (fun i => (mdm_fm Fs11 (by decide) i).trans (mdm_fm Fs9 (by decide) i)))⟩
  ·
    refine z_load X (x := u) rfl (List.Mem.tail _ (List.Mem.tail _ (List.Mem.tail _ (List.Mem.tail _ (List.Mem.tail _ (List.Mem.head _)))))) (z_aload_n X (x := A 179) rfl (List.Mem.head _) (z_getI X 179 rfl (c518_ok rfl) rfl rfl ?_))
    have b21 := bi_106 I
    refine z_icmp_lt X (t := 18) rfl rfl ⟨by first | exact oq_fa4e5087 p7.1 | omega, by first | exact oq_1b20a017 p7.2 p0.2 b1.2 | omega⟩ (rng_to _) (fun g22 => ?_) (fun g22 => ?_)
    ·
      have hl : lsB B u := (bso9_l p8.1).mpr (by first | (clear g6; omega) | omega)
      have hg1 := jGTJ.1.1.1
      have hg2 := jGTJ.2.2.1
      have hg3 := jGTJ.2.2.2.1
      have hyq : (y : Int).toNat = qn := by first | (clear g6; omega) | omega
      refine z_load_n X (x := x) rfl (List.Mem.tail _ (List.Mem.head _)) (z_aload_n X (x := A 179) rfl (List.Mem.head _) (z_getI X 179 rfl (c518_ok rfl) rfl rfl ?_))
      have b23 := bi_105 I
      refine z_icmp_ne X (t := 76) rfl rfl ⟨by first | exact oq_fa4e5087 p0.1 | omega, by first | exact oq_39d2cc6e p0.2 b23.2 | omega⟩ (rng_to _) (fun g24 => ?_) (fun g24 => ?_)
      ·
        exfalso
        omega
      ·
        have hHQ := gt_hmq jMDJ jGTJ p8 (by first | (clear g6; omega) | omega)
        have hWK := gt_wok (c := ((cHt (hitP U S qn) (uN U)) : Int)) jMDJ hHQ
        refine z_aload_n X (x := A 179) rfl (List.Mem.head _) (z_load_n X (x := y) rfl (List.Mem.tail _ (List.Mem.tail _ (List.Mem.head _))) (z_callV X 179 (rm := rmN 284) (As := [.int (Int32.ofInt y)]) (st := []) rfl rfl (by decide) rfl (by rw [E.1, E.2.1, E.2.2.1]; exact k_asMended9 G I jRLx jMDJ (by first | exact ⟨p4.1, p4.2⟩ | omega) (hHQ)) ⟨by rw [E.2.2.2]; exact (show 10 + 1 ≤ (12 + (52 + (0))) from oq_a4cf3503), by rw [E.2.2.2]; exact (show 8 + (5 + 11) + 189 ≤ (500 + 45 * (52 + (0))) from oq_4290aa94), by rw [E.2.2.2]; exact Nat.le_refl 0, by rw [E.2.2.2]; exact Nat.le_refl 0⟩ (Nat.le_of_ble_eq_true rfl) (fun vv s25 hq => ?_) (fun ee s25 hq => ?_)))
        rotate_left
        · obtain ⟨Is25, Fs25, JRLx_s25, hv, hps25⟩ := hq; cases hv
        obtain ⟨Is25, Fs25, JRLx_s25, hv, hps25⟩ := hq
        cases hv
        have Gs25 := fm_tq F Fs25 rfl rfl
        have JRLx_s25 : RLx s25 := RLx_fm Fs25 (by decide) jRLx
        have JMDJ_s25 : MDJ U s25 := MDJ_fm Fs25 (by decide) jMDJ
        have JMZJ_s25 : MZJ U (hitP U S qn) s25 := MZJ_fm Fs25 (by decide) jMZJ
        have ws25_105 : iI s25 105 = iI s 105 := fm_iq Fs25 rfl
        have ws25_106 : iI s25 106 = iI s 106 := fm_iq Fs25 rfl
        have ws25_89 : iI s25 89 = iI s 89 := fm_iq Fs25 rfl
        have ws25_90 : iI s25 90 = iI s 90 := fm_iq Fs25 rfl
        show WS k 31 [(0, .ref (A 179)), (1, .int (Int32.ofInt x)), (2, .int (Int32.ofInt y)), (3, .int (Int32.ofInt z)), (4, .int (Int32.ofInt w)), (5, .int (Int32.ofInt u))] [] (Wd A dT s25) 0 0
        have hst1 : iI s25 90 = iI s 90 := fm_iq Fs25 rfl
        have hAE := am_e (by have zz := hps25; rw [hyq, hg1] at zz; exact zz) ⟨hst1.trans jMDJ.1.1, jMDJ.1.2⟩ hWK
        have hML : MDL (uC9 U (wyC U (PcH (hitP U S qn) ((cHt (hitP U S qn) (uN U)) : Int)) (MD9 s) (RW9 s))) s25 := gt_mdl jMDJ hst1 JMDJ_s25.2.2.2.2.2.2 hWK
        refine z_aload_n X (x := A 179) rfl (List.Mem.head _) (z_callV X 179 (rm := rmN 283) (As := []) (st := []) rfl rfl (by decide) rfl (by rw [E.1, E.2.1, E.2.2.1]; exact k_noneFull9 G Is25 hAE.1 hAE.2.1 hML hAE.2.2.1 hAE.2.2.2 (by first | (clear g6; omega) | omega)) ⟨by rw [E.2.2.2]; exact (show 37 + 1 ≤ (12 + (52 + (0))) from oq_d960365c), by rw [E.2.2.2]; exact (show 8 + (2 + 11) + 1578 ≤ (500 + 45 * (52 + (0))) from oq_e5119b40), by rw [E.2.2.2]; exact Nat.le_refl 0, by rw [E.2.2.2]; exact Nat.le_refl 0⟩ (Nat.le_of_ble_eq_true rfl) (fun vv s27 hq => ?_) (fun ee s27 hq => ?_))
        rotate_left
        · obtain ⟨Is27, Fs27, e28, hv, hrs27, hps27⟩ := hq; cases hv
        obtain ⟨Is27, Fs27, e28, hv, hrs27, hps27⟩ := hq
        cases hv
        have Gs27 := fm_tq Gs25 Fs27 rfl rfl
        have JRLx_s27 : RLx s27 := RLx_fm Fs27 (by decide) JRLx_s25
        have JMZJ_s27 : MZJ U (hitP U S qn) s27 := MZJ_fm Fs27 (by decide) JMZJ_s25
        have ws27_105 : iI s27 105 = iI s25 105 := fm_iq Fs27 rfl
        have ws27_106 : iI s27 106 = iI s25 106 := fm_iq Fs27 rfl
        have ws27_89 : iI s27 89 = iI s25 89 := fm_iq Fs27 rfl
        have ws27_90 : iI s27 90 = iI s25 90 := fm_iq Fs27 rfl
        show WS k 35 [(0, .ref (A 179)), (1, .int (Int32.ofInt x)), (2, .int (Int32.ofInt y)), (3, .int (Int32.ofInt z)), (4, .int (Int32.ofInt w)), (5, .int (Int32.ofInt u))] [.int (Int32.ofInt e28)] (Wd A dT s27) 0 0
        have hLF := lf_eq (f := pfM s) (lim := fun j => iC s 229 j) (by first | (clear hps27 g6; omega) | (clear g6; omega) | omega) (gt_md jGTJ) (gt_rw jGTJ p8 (by first | (clear hps27 g6; omega) | (clear g6; omega) | omega)) (fun b hb => (hg3.2.2 b hb).1)
        have hFF := hps27
        rw [show pfM s25 = pfM s from funext (fun j => fm_c Gs25 (by decide)), show (fun j => iC s25 229 j) = (fun j => iC s 229 j) from funext (fun j => fm_c Gs25 (by decide))] at hFF
        have hFT : ft (msI (mdM s) 1 (cHt (hitP U S qn) (uN U))) = fitK9 U S qn (pfM s) (fun j => iC s 229 j) (msI (mdM s) 1 (cHt (hitP U S qn) (uN U))) := congrFun jGTJ.2.2.2.2 _
        refine z_if_ne X (t := 39) rfl rfl hrs27 (fun g29 => ?_) (fun g29 => ?_)
        ·
          have hf : ft (msI (mdM s) 1 (cHt (hitP U S qn) (uN U))) := by rw [hFT]; exact hFF.elim (fun zz => hLF.mp zz.2) (fun zz => absurd zz.1 (by first | (clear g29 hps27 g6; omega) | (clear hps27 g6; omega) | omega))
          refine z_aload_n X (x := A 179) rfl (List.Mem.head _) (z_load X (x := u) rfl (List.Mem.tail _ (List.Mem.tail _ (List.Mem.tail _ (List.Mem.tail _ (List.Mem.tail _ (List.Mem.head _)))))) (s_putI X 179 rfl (c518_ok rfl) rfl rfl (by decide) rfl rfl rfl (wd_gen (fun s30 hs30 => ?_))))
          have Is30 : Bd s30 := eqB hs30 (bd_I Is27 (show ((-2147483648) : Int) ≤ u ∧ u ≤ 2147483647 by first | exact ⟨oq_fa4e5087 p7.1, oq_ef392b12 g22 b21.2⟩ | omega) ⟨by first | exact oq_fa4e5087 p7.1 | omega, by first | exact oq_ef392b12 g22 b21.2 | omega⟩)
          have Fs30 := eqF hs30 (fm_I Gs27 (inl_ok (a := 106) rfl))
          have vs30 : iI s30 106 = u := eqI hs30 (iI_u ⟨by first | exact oq_fa4e5087 p7.1 | omega, by first | exact oq_ef392b12 g22 b21.2 | omega⟩)
          have ws30_105 : iI s30 105 = iI s27 105 := eqI hs30 rfl
          have ws30_89 : iI s30 89 = iI s27 89 := eqI hs30 rfl
          have ws30_90 : iI s30 90 = iI s27 90 := eqI hs30 rfl
          have fs30 : Fm [106] [] s27 s30 := by rw [hs30]; exact fm_I (fm_rf _ _ _) (show 106 ∈ _ by decide)
          have JRLx_s30 : RLx s30 := RLx_fm fs30 (by decide) JRLx_s27
          refine z_const X rfl (z_store X (lv' := [(6, .int (Int32.ofInt 0)), (0, .ref (A 179)), (1, .int (Int32.ofInt x)), (2, .int (Int32.ofInt y)), (3, .int (Int32.ofInt z)), (4, .int (Int32.ofInt w)), (5, .int (Int32.ofInt u))]) rfl (by decide) (fun _ h => h) (WS_pq [1, 0] (lv' := [(0, .ref (A 179)), (6, .int (Int32.ofInt 0))]) rfl (L48 ((12 - 0 : Int).toNat + 1) s30 0 Is30 Fs30 JRLx_s30 ⟨fun x _ h => absurd h (by first | (clear g29 hps27 g6; omega) | (clear hps27 g6; omega) | omega), fun i => (show iC s30 401 i = iC s27 401 i by rw [hs30]; rfl).trans ((fm_c Fs27 (by decide)).trans (fm_c Fs25 (by decide)))⟩ (by first | exact ⟨And.intro (by decide) (by decide), vs30⟩ | omega) (Nat.lt_succ_self _) ?_)))
          intro s31 x32 Is31 Fs31 JRLx_s31 Qs31 hs31
          have b33 := bi_105 Is31
          have b34 := bi_106 Is31
          have b35 := bi_89 Is31
          have b36 := bi_90 Is31
          have hMZ : MZJ U (hitP U S qn) s31 := fun b hb p => (Qs31.2 b).trans (jMZJ b hb p)
          exact w_vret X.1 q hRt (ax_d X (show cdA 285 75 = some (.return_, 1, 0, 0, 0) from rfl)) (Nat.zero_le _) (Nat.zero_le _) ⟨_, rfl, Is31, Fs31, JRLx_s31, hMZ, rfl, (gtq_1 jGTJ jMZJ p8 (by first | (clear g29 hps27 g6; omega) | (clear hps27 g6; omega) | omega) hf hl (by first | (clear g29 hps27 g6; omega) | (clear hps27 g6; omega) | omega) (by first | (clear g29 hps27 g6; omega) | (clear hps27 g6; omega) | omega) (fun x hx => Qs31.1 x hx (by first | (clear g29 hps27 g6; omega) | (clear hps27 g6; omega) | omega)) jMDJ.1.2 (fun i => by show iC s31 401 (iC s31 400 i).toNat = _; rw [Qs31.2, show iC s31 400 i = iC s 400 i from fm_c Fs31 (by decide)]))⟩
        ·
          exact w_vret X.1 q hRt (ax_d X (show cdA 285 38 = some (.return_, 1, 0, 0, 0) from rfl)) (Nat.zero_le _) (Nat.zero_le _) ⟨_, rfl, Is27, Gs27, JRLx_s27, JMZJ_s27, rfl, (gtq_0 jGTJ p8 (by first | (clear hps27 g6; omega) | (clear g6; omega) | omega) (by rw [hFT]; exact hFF.elim (fun zz => absurd zz.1 (by first | (clear hps27 g6; omega) | (clear g6; omega) | omega)) (fun zz w => zz.2 (hLF.mpr w))) (by first | (clear hps27 g6; omega) | (clear g6; omega) | omega) (sam_ts (sam_fm Fs25 (by decide)) (sam_fm Fs27 (by decide))) (fun i => (mdm_fm Fs27 (by decide) i).trans (mdm_fm Fs25 (by decide) i)))⟩
    ·
      exact w_vret X.1 q hRt (ax_d X (show cdA 285 17 = some (.return_, 1, 0, 0, 0) from rfl)) (Nat.zero_le _) (Nat.zero_le _) ⟨_, rfl, I, F, jRLx, jMZJ, rfl, (gtq_no p8 (by first | (clear g6; omega) | omega))⟩
set_option maxRecDepth 4000 in
theorem k_go9S (G : GX l s0 D tys a0 dT) {U : AirD} {S : Int → Prop} {qn : Nat} {ft : Int → Prop} {B : MdO} {r : Nat} (hR : ∀ {s : PS} {x y z w u : Int} {B : MdO}, Bd s → RLx s → MDJ U s → GTJ U S qn ft s → MZJ U (hitP U S qn) s → (0 ≤ x ∧ x ≤ iI s 105) → (iI s 105 - x ≤ ((r : Nat) : Int)) → (iI s 105 ≤ 8) → (y = (qn : Int)) → (0 ≤ y ∧ y ≤ 23) → (0 ≤ z ∧ z ≤ 8) → (0 ≤ w ∧ w ≤ 8) → (0 ≤ u ∧ u ≤ 3000 * x) → (GTP U (hitP U S qn) B x s) → CT l s0 D A dT 285 (rkR (52 + (r))) [.ref (A 179), .int (Int32.ofInt x), .int (Int32.ofInt y), .int (Int32.ofInt z), .int (Int32.ofInt w), .int (Int32.ofInt u)] s (fun o t => Bd t ∧ Fm [77, 75, 78, 79, 80, 81, 106] [202, 204, 205, 206, 207, 208, 209, 210, 211, 212, 213, 214, 215, 216, 217, 218, 219, 220, 221, 222, 223, 224, 225, 226, 227, 203, 161, 230, 401, 402] s t ∧ RLx t ∧ MZJ U (hitP U S qn) t ∧ o = .inl none ∧ (GTQ U S qn ft B x u z w s t))) (I : Bd s) (jRLx : RLx s) (jMDJ : MDJ U s) (jGTJ : GTJ U S qn ft s) (jMZJ : MZJ U (hitP U S qn) s) {x y z w u : Int} (p0 : 0 ≤ x ∧ x ≤ iI s 105) (p1 : iI s 105 - x ≤ ((r + 1 : Nat) : Int)) (p2 : iI s 105 ≤ 8) (p3 : y = (qn : Int)) (p4 : 0 ≤ y ∧ y ≤ 23) (p5 : 0 ≤ z ∧ z ≤ 8) (p6 : 0 ≤ w ∧ w ≤ 8) (p7 : 0 ≤ u ∧ u ≤ 3000 * x) (p8 : GTP U (hitP U S qn) B x s) : CT l s0 D A dT 285 (rkR (52 + (r + 1))) [.ref (A 179), .int (Int32.ofInt x), .int (Int32.ofInt y), .int (Int32.ofInt z), .int (Int32.ofInt w), .int (Int32.ofInt u)] s (fun o t => Bd t ∧ Fm [77, 75, 78, 79, 80, 81, 106] [202, 204, 205, 206, 207, 208, 209, 210, 211, 212, 213, 214, 215, 216, 217, 218, 219, 220, 221, 222, 223, 224, 225, 226, 227, 203, 161, 230, 401, 402] s t ∧ RLx t ∧ MZJ U (hitP U S qn) t ∧ o = .inl none ∧ (GTQ U S qn ft B x u z w s t)) := by
  refine ct_of G (by decide) (Nat.le_of_ble_eq_true rfl) (fun k X E hRt hXt q => ?_)
  show WS k 0 [(0, .ref (A 179)), (1, .int (Int32.ofInt x)), (2, .int (Int32.ofInt y)), (3, .int (Int32.ofInt z)), (4, .int (Int32.ofInt w)), (5, .int (Int32.ofInt u))] [] _ 0 0
  have F : Fm [77, 75, 78, 79, 80, 81, 106] [202, 204, 205, 206, 207, 208, 209, 210, 211, 212, 213, 214, 215, 216, 217, 218, 219, 220, 221, 222, 223, 224, 225, 226, 227, 203, 161, 230, 401, 402] s s := fm_rf _ _ s
  have b1 := bi_105 I
  have b2 := bi_106 I
  have b3 := bi_89 I
  have b4 := bi_90 I
  have L48 : ∀ (n : Nat) (t : PS) (c : Int), Bd t → Fm [77, 75, 78, 79, 80, 81, 106] [202, 204, 205, 206, 207, 208, 209, 210, 211, 212, 213, 214, 215, 216, 217, 218, 219, 220, 221, 222, 223, 224, 225, 226, 227, 203, 161, 230, 401, 402] s t → RLx t → ((∀ x : Nat, x < 12 → (x : Int) < c → iC t 402 x = iC s 401 x) ∧ SAM 401 s t) → ((0 ≤ c ∧ c ≤ 12) ∧ iI t 106 = u) → (12 - c : Int).toNat < n → (∀ (t' : PS) (c' : Int), Bd t' → Fm [77, 75, 78, 79, 80, 81, 106] [202, 204, 205, 206, 207, 208, 209, 210, 211, 212, 213, 214, 215, 216, 217, 218, 219, 220, 221, 222, 223, 224, 225, 226, 227, 203, 161, 230, 401, 402] s t' → RLx t' → ((∀ x : Nat, x < 12 → (x : Int) < c' → iC t' 402 x = iC s 401 x) ∧ SAM 401 s t') → (c' = 12 ∧ iI t' 106 = u) → WS k 75 [(0, .ref (A 179)), (6, .int (Int32.ofInt c'))] [] (Wd A dT t') 0 0) → WS k 48 [(0, .ref (A 179)), (6, .int (Int32.ofInt c))] [] (Wd A dT t) 0 0 := by
    intro n
    induction n with
    | zero =>
      intro t c I F jjRLx hq hi hm kx
      exact absurd hm (Nat.not_lt_zero _)
    | succ n ih =>
      intro t c I F jjRLx hq hi hm kx
      have b1001 := bi_105 I
      have b1002 := bi_106 I
      have b1003 := bi_89 I
      have b1004 := bi_90 I
      refine z_load X (x := c) rfl (List.Mem.tail _ (List.Mem.head _)) (z_bipush X rfl (z_icmp_ge X (t := 75) rfl rfl ⟨by first | exact oq_fa4e5087 hi.1.1 | omega, by first | exact oq_78843a64 hi.1.2 | omega⟩ (by decide) (fun g1005 => ?_) (fun g1005 => ?_)))
      ·
        refine WS_pq [0, 1] (lv' := [(0, .ref (A 179)), (6, .int (Int32.ofInt c))]) rfl ?_
        exact kx _ c I F jjRLx hq (by first | exact ⟨oq_8e7d85da hi.1.2 g1005, hi.2⟩ | omega)
      ·
        refine z_aload_n X (x := A 179) rfl (List.Mem.head _) (s_getR X 179 rfl (c518_ok rfl) rfl rfl (z_load X (x := c) rfl (List.Mem.tail _ (List.Mem.head _)) (z_aload_n X (x := A 179) rfl (List.Mem.head _) (s_getR X 179 rfl (c518_ok rfl) rfl rfl (z_load X (x := c) rfl (List.Mem.tail _ (List.Mem.head _)) (z_ald X 456 rfl (c518_ok rfl) rfl (by first | exact hi.1.1 | omega) (show c < 12 by first | exact g1005 | omega) (cbig_ok rfl) ?_))))))
        have b1006 := bc_401 I (show (c).toNat < 12 by first | exact oq_d855cead g1005 | omega)
        refine z_ast X 457 rfl (c518_ok rfl) rfl (by first | exact hi.1.1 | omega) (show c < 12 by first | exact g1005 | omega) (cbig_ok rfl) (wd_gen (fun s1007 hs1007 => ?_))
        have Is1007 : Bd s1007 := eqB hs1007 (bd_C I (show (0 : Int) ≤ (iC t 401 (c).toNat) ∧ (iC t 401 (c).toNat) ≤ 3 by first | exact ⟨b1006.1, b1006.2⟩ | omega) (rng_to _))
        have Fs1007 := eqF hs1007 (fm_C F (inl_ok (a := 402) rfl))
        have ws1007_105 : iI s1007 105 = iI t 105 := eqI hs1007 rfl
        have ws1007_106 : iI s1007 106 = iI t 106 := eqI hs1007 rfl
        have ws1007_89 : iI s1007 89 = iI t 89 := eqI hs1007 rfl
        have ws1007_90 : iI s1007 90 = iI t 90 := eqI hs1007 rfl
        have fs1007 : Fm [] [402] t s1007 := by rw [hs1007]; exact fm_C (fm_rf _ _ _) (show 402 ∈ _ by decide)
        have JRLx_s1007 : RLx s1007 := RLx_fm fs1007 (by decide) jjRLx
        refine z_inc X (x := c) (lv' := [(6, .int (Int32.ofInt (c + 1))), (0, .ref (A 179))]) rfl (by decide) (List.Mem.tail _ (List.Mem.head _)) (fun _ h => h) (z_goto X (t := 48) rfl rfl (WS_pq [1, 0] (lv' := [(0, .ref (A 179)), (6, .int (Int32.ofInt (c + 1)))]) rfl ?_))
        exact ih _ (c + 1) Is1007 Fs1007 JRLx_s1007 ⟨fun x hx h => by by_cases e : x = (c : Int).toNat; (· rw [e, hs1007, iC_u ⟨by omega, by omega⟩]; exact hq.2 _); (· rw [hs1007, iC_n e]; exact hq.1 x hx (by omega)), fun i => by rw [hs1007, iC_a (by decide)]; exact hq.2 i⟩ (by first | exact ⟨And.intro (oq_54f49eb5 hi.1.1) (oq_6a25a379 g1005), oq_1aa5be9e ws1007_106 hi.2⟩ | omega) (by first | exact qk_me hm (by decide) (oq_ab2484cf g1005) | omega) kx
  have L87 : ∀ (n : Nat) (t : PS) (sv mm : Int), Bd t → Fm [77, 75, 78, 79, 80, 81, 106] [202, 204, 205, 206, 207, 208, 209, 210, 211, 212, 213, 214, 215, 216, 217, 218, 219, 220, 221, 222, 223, 224, 225, 226, 227, 203, 161, 230, 401, 402] s t → RLx t → MDJ U t → GTJ U S qn ft t → MZJ U (hitP U S qn) t → (TSM U (hitP U S qn) (gtB (hmoS U S qn) (hrdS U S qn) ft (cHt (hitP U S qn) (uN U)) (mdM s) (x : Int).toNat u z w B mm) x s t) → ((0 ≤ x ∧ x < iI s 105) ∧ iI s 105 ≤ 8 ∧ (0 ≤ y ∧ y ≤ 23) ∧ (0 ≤ z ∧ z ≤ 8) ∧ (0 ≤ w ∧ w ≤ 8) ∧ (0 ≤ u ∧ u ≤ 3000 * x) ∧ iI t 105 = iI s 105 ∧ iI t 90 = iI s 90 ∧ (sv = iC s 400 (x : Int).toNat ∧ 0 ≤ sv ∧ sv ≤ 11) ∧ 1 ≤ mm ∧ mm ≤ 4) → (4 - mm : Int).toNat < n → (∀ (t' : PS) (mm' : Int), Bd t' → Fm [77, 75, 78, 79, 80, 81, 106] [202, 204, 205, 206, 207, 208, 209, 210, 211, 212, 213, 214, 215, 216, 217, 218, 219, 220, 221, 222, 223, 224, 225, 226, 227, 203, 161, 230, 401, 402] s t' → RLx t' → MDJ U t' → GTJ U S qn ft t' → MZJ U (hitP U S qn) t' → (TSM U (hitP U S qn) (gtB (hmoS U S qn) (hrdS U S qn) ft (cHt (hitP U S qn) (uN U)) (mdM s) (x : Int).toNat u z w B mm') x s t') → ((0 ≤ x ∧ x < iI s 105) ∧ iI s 105 ≤ 8 ∧ (0 ≤ y ∧ y ≤ 23) ∧ (0 ≤ z ∧ z ≤ 8) ∧ (0 ≤ w ∧ w ≤ 8) ∧ (0 ≤ u ∧ u ≤ 3000 * x) ∧ iI t' 105 = iI s 105 ∧ iI t' 90 = iI s 90 ∧ (sv = iC s 400 (x : Int).toNat ∧ 0 ≤ sv ∧ sv ≤ 11) ∧ mm' = 4) → WS k 196 [(0, .ref (A 179)), (1, .int (Int32.ofInt x)), (2, .int (Int32.ofInt y)), (3, .int (Int32.ofInt z)), (4, .int (Int32.ofInt w)), (5, .int (Int32.ofInt u)), (6, .int (Int32.ofInt sv)), (7, .int (Int32.ofInt mm'))] [] (Wd A dT t') 0 0) → WS k 87 [(0, .ref (A 179)), (1, .int (Int32.ofInt x)), (2, .int (Int32.ofInt y)), (3, .int (Int32.ofInt z)), (4, .int (Int32.ofInt w)), (5, .int (Int32.ofInt u)), (6, .int (Int32.ofInt sv)), (7, .int (Int32.ofInt mm))] [] (Wd A dT t) 0 0 := by
    intro n
    induction n with
    | zero =>
      intro t sv mm I F jjRLx jjMDJ jjGTJ jjMZJ hq hi hm kx
      exact absurd hm (Nat.not_lt_zero _)
    | succ n ih =>
      intro t sv mm I F jjRLx jjMDJ jjGTJ jjMZJ hq hi hm kx
      have b2001 := bi_105 I
      have b2002 := bi_106 I
      have b2003 := bi_89 I
      have b2004 := bi_90 I
      refine z_load X (x := mm) rfl (List.Mem.tail _ (List.Mem.tail _ (List.Mem.tail _ (List.Mem.tail _ (List.Mem.tail _ (List.Mem.tail _ (List.Mem.tail _ (List.Mem.head _)))))))) (z_const X rfl (z_icmp_ge X (t := 196) rfl rfl ⟨by first | exact oq_9462313e hi.2.2.2.2.2.2.2.2.2.1 | omega, by first | exact oq_4a4414da hi.2.2.2.2.2.2.2.2.2.2 | omega⟩ (by decide) (fun g2005 => ?_) (fun g2005 => ?_)))
      ·
        refine WS_pq [0, 1, 2, 3, 4, 5, 6, 7] (lv' := [(0, .ref (A 179)), (1, .int (Int32.ofInt x)), (2, .int (Int32.ofInt y)), (3, .int (Int32.ofInt z)), (4, .int (Int32.ofInt w)), (5, .int (Int32.ofInt u)), (6, .int (Int32.ofInt sv)), (7, .int (Int32.ofInt mm))]) rfl ?_
        exact kx _ mm I F jjRLx jjMDJ jjGTJ jjMZJ hq (by first | exact ⟨And.intro (hi.1.1) (hi.1.2), hi.2.1, And.intro (hi.2.2.1.1) (hi.2.2.1.2), And.intro (hi.2.2.2.1.1) (hi.2.2.2.1.2), And.intro (hi.2.2.2.2.1.1) (hi.2.2.2.2.1.2), And.intro (hi.2.2.2.2.2.1.1) (hi.2.2.2.2.2.1.2), hi.2.2.2.2.2.2.1, hi.2.2.2.2.2.2.2.1, And.intro (hi.2.2.2.2.2.2.2.2.1.1) (And.intro (hi.2.2.2.2.2.2.2.2.1.2.1) (hi.2.2.2.2.2.2.2.2.1.2.2)), oq_b0bc9e24 hi.2.2.2.2.2.2.2.2.2.2 g2005⟩ | omega)
      ·
        refine z_load X (x := mm) rfl (List.Mem.tail _ (List.Mem.tail _ (List.Mem.tail _ (List.Mem.tail _ (List.Mem.tail _ (List.Mem.tail _ (List.Mem.tail _ (List.Mem.head _)))))))) (z_const X rfl (z_icmp_ne X (t := 109) rfl rfl ⟨by first | exact oq_9462313e hi.2.2.2.2.2.2.2.2.2.1 | omega, by first | exact oq_f46e1d28 g2005 | omega⟩ (by decide) (fun g2006 => ?_) (fun g2006 => ?_)))
        ·
          refine z_load X (x := mm) rfl (List.Mem.tail _ (List.Mem.tail _ (List.Mem.tail _ (List.Mem.tail _ (List.Mem.tail _ (List.Mem.tail _ (List.Mem.tail _ (List.Mem.head _)))))))) (z_const X rfl (z_icmp_ne X (t := 119) rfl rfl ⟨by first | exact oq_9462313e hi.2.2.2.2.2.2.2.2.2.1 | omega, by first | exact oq_f46e1d28 g2005 | omega⟩ (by decide) (fun g2007 => ?_) (fun g2007 => ?_)))
          ·
            refine z_load X (x := mm) rfl (List.Mem.tail _ (List.Mem.tail _ (List.Mem.tail _ (List.Mem.tail _ (List.Mem.tail _ (List.Mem.tail _ (List.Mem.tail _ (List.Mem.head _)))))))) (z_const X rfl (z_icmp_ne X (t := 133) rfl rfl ⟨by first | exact oq_9462313e hi.2.2.2.2.2.2.2.2.2.1 | omega, by first | exact oq_f46e1d28 g2005 | omega⟩ (by decide) (fun g2008 => ?_) (fun g2008 => ?_)))
            ·
              exfalso
              omega
            ·
              refine z_load X (x := w) rfl (List.Mem.tail _ (List.Mem.tail _ (List.Mem.tail _ (List.Mem.tail _ (List.Mem.head _))))) (z_if_ne X (t := 133) rfl rfl ⟨by first | exact oq_fa4e5087 hi.2.2.2.2.1.1 | omega, by first | exact oq_d3f5d874 hi.2.2.2.2.1.2 | omega⟩ (fun g2009 => ?_) (fun g2009 => ?_))
              ·
                have esv : sv = iC t 400 (x : Int).toNat := by have zz : iC t 400 (x : Int).toNat = iC s 400 (x : Int).toNat := fm_c F (by decide); omega
                have hga := gtj_at jjGTJ (j := (x : Int).toNat) (by have := jjGTJ.1.1.1; omega)
                have hgz := hga.1
                have hgb := hga.2.1
                have hdn := jjMDJ.1.1
                have hG1 := jjGTJ.1.1.1
                have hhz := hrd_z jjGTJ (x := (x : Int).toNat) (by first | (clear g2009 g2007 g2006; omega) | (clear g2007 g2006; omega) | omega) (fun b hb => (jjGTJ.2.2.2.1.2.2 b hb).1)
                rw [← esv] at hhz
                have hhm := hmo_at jjGTJ (x := (x : Int).toNat) (by first | (clear g2009 g2007 g2006; omega) | (clear g2007 g2006; omega) | omega)
                rw [← esv] at hhm
                have hRr := jjGTJ.2.1 _ hgb hga.2.2.1
                have hRb : 0 ≤ iC t 403 (sv : Int).toNat ∧ iC t 403 (sv : Int).toNat ≤ 24 := by rw [show (sv : Int).toNat = hAt (hitP U S qn) (x : Int).toNat by first | (clear g2009 g2007 g2006; omega) | (clear g2007 g2006; omega) | omega]; exact hRr.elim (fun zz => by rw [zz.1]; decide) (fun zz => by have := zz.1; omega)
                refine z_aload_n X (x := A 179) rfl (List.Mem.head _) (s_getR X 179 rfl (c518_ok rfl) rfl rfl (z_load X (x := sv) rfl (List.Mem.tail _ (List.Mem.tail _ (List.Mem.tail _ (List.Mem.tail _ (List.Mem.tail _ (List.Mem.tail _ (List.Mem.head _))))))) (z_load X (x := mm) rfl (List.Mem.tail _ (List.Mem.tail _ (List.Mem.tail _ (List.Mem.tail _ (List.Mem.tail _ (List.Mem.tail _ (List.Mem.tail _ (List.Mem.head _)))))))) (z_ast X 456 rfl (c518_ok rfl) rfl (by first | exact hi.2.2.2.2.2.2.2.2.1.2.1 | omega) (show sv < 12 by first | exact oq_0ddfcfee hi.2.2.2.2.2.2.2.2.1.2.2 | omega) (cbig_ok rfl) (wd_gen (fun s2010 hs2010 => ?_))))))
                have Is2010 : Bd s2010 := eqB hs2010 (bd_C I (show (0 : Int) ≤ mm ∧ mm ≤ 3 by first | exact ⟨oq_07dfda71 g2008, oq_abfb379f g2008⟩ | omega) ⟨by first | exact oq_5e17cb06 g2008 | omega, by first | exact oq_ebfd4642 g2008 | omega⟩)
                have Fs2010 := eqF hs2010 (fm_C F (inl_ok (a := 401) rfl))
                have ws2010_105 : iI s2010 105 = iI t 105 := eqI hs2010 rfl
                have ws2010_106 : iI s2010 106 = iI t 106 := eqI hs2010 rfl
                have ws2010_89 : iI s2010 89 = iI t 89 := eqI hs2010 rfl
                have ws2010_90 : iI s2010 90 = iI t 90 := eqI hs2010 rfl
                have fs2010 : Fm [] [401] t s2010 := by rw [hs2010]; exact fm_C (fm_rf _ _ _) (show 401 ∈ _ by decide)
                have JRLx_s2010 : RLx s2010 := RLx_fm fs2010 (by decide) jjRLx
                have JMDJ_s2010 : MDJ U s2010 := MDJ_fm fs2010 (by decide) jjMDJ
                have JGTJ_s2010 : GTJ U S qn ft s2010 := GTJ_fm fs2010 (by decide) jjGTJ
                have hU9 : s2010 = uC t 401 (iC t 400 (x : Int).toNat).toNat (Int32.ofInt mm) := by rw [← esv]; exact hs2010
                have hMZ : MZJ U (hitP U S qn) s2010 := mzj_u jjGTJ (by first | (clear g2009 g2007 g2006; omega) | (clear g2007 g2006; omega) | omega) jjMZJ hU9
                have hGP : GTP U (hitP U S qn) (gtB (hmoS U S qn) (hrdS U S qn) ft (cHt (hitP U S qn) (uN U)) (mdM s) (x : Int).toNat u z w B mm) (x + 1) s2010 := gtp_in jjGTJ p8 hq (fun i => fm_c F (by decide)) (fun i => fm_c F (by decide)) (by first | (clear g2009 g2007 g2006; omega) | (clear g2007 g2006; omega) | omega) (by first | (clear g2009 g2007 g2006; omega) | (clear g2007 g2006; omega) | omega) hU9 (fun _ => by rw [← esv]; omega)
                refine z_aload_n X (x := A 179) rfl (List.Mem.head _) (z_load_n X (x := x) rfl (List.Mem.tail _ (List.Mem.head _)) (z_const X rfl (z_add X rfl (z_load_n X (x := y) rfl (List.Mem.tail _ (List.Mem.tail _ (List.Mem.head _))) (z_load X (x := mm) rfl (List.Mem.tail _ (List.Mem.tail _ (List.Mem.tail _ (List.Mem.tail _ (List.Mem.tail _ (List.Mem.tail _ (List.Mem.tail _ (List.Mem.head _)))))))) (z_const X rfl (z_icmp_ne X (t := 159) rfl rfl ⟨by first | exact oq_5e17cb06 g2008 | omega, by first | exact oq_ebfd4642 g2008 | omega⟩ (by decide) (fun g2011 => ?_) (fun g2011 => ?_))))))))
                ·
                  refine z_load_n X (x := z) rfl (List.Mem.tail _ (List.Mem.tail _ (List.Mem.tail _ (List.Mem.head _)))) (z_load X (x := mm) rfl (List.Mem.tail _ (List.Mem.tail _ (List.Mem.tail _ (List.Mem.tail _ (List.Mem.tail _ (List.Mem.tail _ (List.Mem.tail _ (List.Mem.head _)))))))) (z_const X rfl (z_icmp_ne X (t := 173) rfl rfl ⟨by first | exact oq_5e17cb06 g2008 | omega, by first | exact oq_ebfd4642 g2008 | omega⟩ (by decide) (fun g2012 => ?_) (fun g2012 => ?_))))
                  ·
                    exfalso
                    omega
                  ·
                    refine z_load X (x := w) rfl (List.Mem.tail _ (List.Mem.tail _ (List.Mem.tail _ (List.Mem.tail _ (List.Mem.head _))))) (z_const X rfl (z_sub X rfl (z_goto X (t := 175) rfl rfl (z_load X (x := u) rfl (List.Mem.tail _ (List.Mem.tail _ (List.Mem.tail _ (List.Mem.tail _ (List.Mem.tail _ (List.Mem.head _)))))) (z_aload_n X (x := A 179) rfl (List.Mem.head _) (z_load X (x := sv) rfl (List.Mem.tail _ (List.Mem.tail _ (List.Mem.tail _ (List.Mem.tail _ (List.Mem.tail _ (List.Mem.tail _ (List.Mem.head _))))))) (z_load X (x := mm) rfl (List.Mem.tail _ (List.Mem.tail _ (List.Mem.tail _ (List.Mem.tail _ (List.Mem.tail _ (List.Mem.tail _ (List.Mem.tail _ (List.Mem.head _)))))))) (z_load_n X (x := y) rfl (List.Mem.tail _ (List.Mem.tail _ (List.Mem.head _))) ?_))))))))
                    have hrn : iC s2010 403 (sv : Int).toNat = iC t 403 (sv : Int).toNat := eqC hs2010 (iC_a (by decide))
                    refine z_callV X 179 (rm := rmN 282) (As := [.int (Int32.ofInt sv), .int (Int32.ofInt mm), .int (Int32.ofInt y)]) (st := [.int (Int32.ofInt u), .int (Int32.ofInt (w - 1)), .int (Int32.ofInt z), .int (Int32.ofInt y), .int (Int32.ofInt (x + 1)), .ref (A 179)]) rfl rfl (by decide) rfl (by rw [E.1, E.2.1, E.2.2.1]; exact k_minutes9 G Is2010 JMDJ_s2010 (by first | exact ⟨hi.2.2.2.2.2.2.2.2.1.2.1, by first | (clear g2011 g2009 g2007 g2006; omega) | (clear g2009 g2007 g2006; omega) | omega⟩ | omega) (by first | exact ⟨hi.2.2.2.2.2.2.2.2.2.1, oq_abfb379f g2012⟩ | omega) (by first | exact ⟨hi.2.2.1.1, hi.2.2.1.2⟩ | omega) (by first | exact ⟨oq_e4757433 hrn hRb.1, oq_74332778 hrn hRb.2⟩ | omega)) ⟨by rw [E.2.2.2]; exact (show 8 + 1 ≤ (12 + (52 + (r + 1))) from oq_edd5f4e9 r), by rw [E.2.2.2]; exact (show 8 + (5 + 11) + 146 ≤ (500 + 45 * (52 + (r + 1))) from oq_2709c6fe r), by rw [E.2.2.2]; exact Nat.le_refl 0, by rw [E.2.2.2]; exact Nat.le_refl 0⟩ (Nat.le_of_ble_eq_true rfl) (fun vv s2013 hq => ?_) (fun ee s2013 hq => ?_)
                    rotate_left
                    · obtain ⟨Is2013, Fs2013, e2014, hv, hrs2013, hps2013⟩ := hq; cases hv
                    obtain ⟨Is2013, Fs2013, e2014, hv, hrs2013, hps2013⟩ := hq
                    have hps2013p := hps2013.1
                    cases hv
                    have Gs2013 := fm_tq Fs2010 Fs2013 rfl rfl
                    have JRLx_s2013 : RLx s2013 := RLx_fm Fs2013 (by decide) JRLx_s2010
                    have JMDJ_s2013 : MDJ U s2013 := MDJ_fm Fs2013 (by decide) JMDJ_s2010
                    have JGTJ_s2013 : GTJ U S qn ft s2013 := GTJ_fm Fs2013 (by decide) JGTJ_s2010
                    have JMZJ_s2013 : MZJ U (hitP U S qn) s2013 := MZJ_fm Fs2013 (by decide) hMZ
                    have ws2013_105 : iI s2013 105 = iI s2010 105 := fm_iq Fs2013 rfl
                    have ws2013_106 : iI s2013 106 = iI s2010 106 := fm_iq Fs2013 rfl
                    have ws2013_89 : iI s2013 89 = iI s2010 89 := fm_iq Fs2013 rfl
                    have ws2013_90 : iI s2013 90 = iI s2010 90 := fm_iq Fs2013 rfl
                    show WS k 186 [(0, .ref (A 179)), (1, .int (Int32.ofInt x)), (2, .int (Int32.ofInt y)), (3, .int (Int32.ofInt z)), (4, .int (Int32.ofInt w)), (5, .int (Int32.ofInt u)), (6, .int (Int32.ofInt sv)), (7, .int (Int32.ofInt mm))] [.int (Int32.ofInt e2014), .int (Int32.ofInt u), .int (Int32.ofInt (w - 1)), .int (Int32.ofInt z), .int (Int32.ofInt y), .int (Int32.ofInt (x + 1)), .ref (A 179)] (Wd A dT s2013) 0 0
                    have hmb := hps2013.1
                    refine z_add X rfl (z_callV X 179 (rm := (rkR (52 + (r)))) (As := [.int (Int32.ofInt (x + 1)), .int (Int32.ofInt y), .int (Int32.ofInt z), .int (Int32.ofInt (w - 1)), .int (Int32.ofInt (u + e2014))]) (st := []) rfl rfl (by decide) rfl (by rw [E.1, E.2.1, E.2.2.1]; exact hR Is2013 JRLx_s2013 JMDJ_s2013 JGTJ_s2013 JMZJ_s2013 (by first | exact ⟨oq_54f49eb5 hi.1.1, oq_11bbe77e ws2013_105 hi.1.2 ws2010_105 hi.2.2.2.2.2.2.1⟩ | omega) (by first | exact oq_7e901d26 p1 ws2013_105 ws2010_105 hi.2.2.2.2.2.2.1 | omega) (by first | exact oq_e14d47df ws2013_105 ws2010_105 hi.2.2.2.2.2.2.1 hi.2.1 | omega) (by first | exact p3 | omega) (by first | exact ⟨hi.2.2.1.1, hi.2.2.1.2⟩ | omega) (by first | exact ⟨hi.2.2.2.1.1, hi.2.2.2.1.2⟩ | omega) (by first | exact ⟨oq_8af9d5df g2009 hi.2.2.2.2.1.1, oq_d7fe5c3c hi.2.2.2.2.1.2⟩ | omega) (by first | (clear hps2013 g2011 g2009 g2007 g2006; omega) | (clear g2011 g2009 g2007 g2006; omega) | omega) ((gtp_fm Fs2013 (by decide) hGP))) ⟨by rw [E.2.2.2]; exact (show (12 + (52 + (r))) + 1 ≤ (12 + (52 + (r + 1))) from oq_c268f935 r), by rw [E.2.2.2]; exact (show 8 + (8 + 11) + (500 + 45 * (52 + (r))) ≤ (500 + 45 * (52 + (r + 1))) from oq_488e467a r), by rw [E.2.2.2]; exact Nat.le_refl 0, by rw [E.2.2.2]; exact Nat.le_refl 0⟩ (Nat.le_of_ble_eq_true rfl) (fun vv s2015 hq => ?_) (fun ee s2015 hq => ?_))
                    rotate_left
                    · obtain ⟨Is2015, Fs2015, JRLx_s2015, JMZJ_s2015, hv, hps2015⟩ := hq; cases hv
                    obtain ⟨Is2015, Fs2015, JRLx_s2015, JMZJ_s2015, hv, hps2015⟩ := hq
                    cases hv
                    have Gs2015 := fm_tq Gs2013 Fs2015 rfl rfl
                    have JRLx_s2015 : RLx s2015 := RLx_fm Fs2015 (by decide) JRLx_s2013
                    have JMDJ_s2015 : MDJ U s2015 := MDJ_fm Fs2015 (by decide) JMDJ_s2013
                    have JGTJ_s2015 : GTJ U S qn ft s2015 := GTJ_fm Fs2015 (by decide) JGTJ_s2013
                    have ws2015_105 : iI s2015 105 = iI s2013 105 := fm_iq Fs2015 rfl
                    have b2017 := bi_106 Is2015
                    have ws2015_89 : iI s2015 89 = iI s2013 89 := fm_iq Fs2015 rfl
                    have ws2015_90 : iI s2015 90 = iI s2013 90 := fm_iq Fs2015 rfl
                    show WS k 190 [(0, .ref (A 179)), (1, .int (Int32.ofInt x)), (2, .int (Int32.ofInt y)), (3, .int (Int32.ofInt z)), (4, .int (Int32.ofInt w)), (5, .int (Int32.ofInt u)), (6, .int (Int32.ofInt sv)), (7, .int (Int32.ofInt mm))] [] (Wd A dT s2015) 0 0
                    refine z_inc X (x := mm) (lv' := [(7, .int (Int32.ofInt (mm + 1))), (0, .ref (A 179)), (1, .int (Int32.ofInt x)), (2, .int (Int32.ofInt y)), (3, .int (Int32.ofInt z)), (4, .int (Int32.ofInt w)), (5, .int (Int32.ofInt u)), (6, .int (Int32.ofInt sv))]) rfl (by decide) (List.Mem.tail _ (List.Mem.tail _ (List.Mem.tail _ (List.Mem.tail _ (List.Mem.tail _ (List.Mem.tail _ (List.Mem.tail _ (List.Mem.head _)))))))) (fun _ h => h) (z_goto X (t := 87) rfl rfl (WS_pq [1, 2, 3, 4, 5, 6, 7, 0] (lv' := [(0, .ref (A 179)), (1, .int (Int32.ofInt x)), (2, .int (Int32.ofInt y)), (3, .int (Int32.ofInt z)), (4, .int (Int32.ofInt w)), (5, .int (Int32.ofInt u)), (6, .int (Int32.ofInt sv)), (7, .int (Int32.ofInt (mm + 1)))]) rfl ?_))
                    have hev : e2014 = 60 * hmoS U S qn (x : Int).toNat := by rw [hhm]; have zz := hps2013.2; rw [show (y : Int).toNat = qn by first | (clear hps2013 g2011 g2009 g2007 g2006; omega) | (clear g2011 g2009 g2007 g2006; omega) | omega] at zz; rcases zz with zz | zz | zz; (· exact absurd zz.1 (by first | (clear hps2013 g2011 g2009 g2007 g2006; omega) | (clear g2011 g2009 g2007 g2006; omega) | omega)); (· exact absurd zz.1 (by first | (clear hps2013 g2011 g2009 g2007 g2006; omega) | (clear g2011 g2009 g2007 g2006; omega) | omega)); (· exact zz.2)
                    have hgg0 : GTQ U S qn ft (gtB (hmoS U S qn) (hrdS U S qn) ft (cHt (hitP U S qn) (uN U)) (mdM s) (x : Int).toNat u z w B mm) (x + 1) (u + 60 * hmoS U S qn (x : Int).toNat) z (w - 1) s2013 s2015 := by have zz := hps2015; rw [hev] at zz; exact zz
                    have hgg := gtq_s (b := s2010) (fun j => mdm_fm Fs2013 (by decide) j) hgg0
                    exact ih _ sv (mm + 1) Is2015 Gs2015 JRLx_s2015 JMDJ_s2015 JGTJ_s2015 JMZJ_s2015 (by rw [show mm + 1 = 4 by first | (clear hps2013 g2011 g2009 g2007 g2006; omega) | (clear g2011 g2009 g2007 g2006; omega) | omega, gtb_3 (show 0 < w by first | (clear hps2013 g2011 g2009 g2007 g2006; omega) | (clear g2011 g2009 g2007 g2006; omega) | omega)]; have zz := tsm_call (m := mm) jjGTJ hq (by first | (clear hps2013 g2011 g2009 g2007 g2006; omega) | (clear g2011 g2009 g2007 g2006; omega) | omega) (by first | (clear hps2013 g2011 g2009 g2007 g2006; omega) | (clear g2011 g2009 g2007 g2006; omega) | omega) hU9 hgg; rw [show mm = 3 by first | (clear hps2013 g2011 g2009 g2007 g2006; omega) | (clear g2011 g2009 g2007 g2006; omega) | omega] at zz; exact zz) (by first | exact ⟨And.intro (hi.1.1) (hi.1.2), hi.2.1, And.intro (hi.2.2.1.1) (hi.2.2.1.2), And.intro (hi.2.2.2.1.1) (hi.2.2.2.1.2), And.intro (hi.2.2.2.2.1.1) (hi.2.2.2.2.1.2), And.intro (hi.2.2.2.2.2.1.1) (hi.2.2.2.2.2.1.2), oq_ac0e91e1 ws2015_105 ws2013_105 ws2010_105 hi.2.2.2.2.2.2.1, oq_45b593e3 ws2015_90 hi.2.2.2.2.2.2.2.1 ws2013_90 ws2010_90, And.intro (hi.2.2.2.2.2.2.2.2.1.1) (And.intro (hi.2.2.2.2.2.2.2.2.1.2.1) (hi.2.2.2.2.2.2.2.2.1.2.2)), oq_25f0e837 g2012, oq_a93cab5a g2012⟩ | omega) (by first | exact qk_me hm (by decide) (oq_7ba9b3ae g2012) | omega) kx
                ·
                  exfalso
                  omega
              ·
                refine z_goto X (t := 190) rfl rfl (z_inc X (x := mm) (lv' := [(7, .int (Int32.ofInt (mm + 1))), (0, .ref (A 179)), (1, .int (Int32.ofInt x)), (2, .int (Int32.ofInt y)), (3, .int (Int32.ofInt z)), (4, .int (Int32.ofInt w)), (5, .int (Int32.ofInt u)), (6, .int (Int32.ofInt sv))]) rfl (by decide) (List.Mem.tail _ (List.Mem.tail _ (List.Mem.tail _ (List.Mem.tail _ (List.Mem.tail _ (List.Mem.tail _ (List.Mem.tail _ (List.Mem.head _)))))))) (fun _ h => h) (z_goto X (t := 87) rfl rfl (WS_pq [1, 2, 3, 4, 5, 6, 7, 0] (lv' := [(0, .ref (A 179)), (1, .int (Int32.ofInt x)), (2, .int (Int32.ofInt y)), (3, .int (Int32.ofInt z)), (4, .int (Int32.ofInt w)), (5, .int (Int32.ofInt u)), (6, .int (Int32.ofInt sv)), (7, .int (Int32.ofInt (mm + 1)))]) rfl ?_)))
                exact ih _ sv (mm + 1) I F jjRLx jjMDJ jjGTJ jjMZJ (by rw [show mm + 1 = 4 by first | (clear g2007 g2006; omega) | (clear g2006; omega) | omega, gtb_3n (show ¬ 0 < w by first | (clear g2007 g2006; omega) | (clear g2006; omega) | omega)]; have zz := hq; rw [show mm = 3 by first | (clear g2007 g2006; omega) | (clear g2006; omega) | omega] at zz; exact zz) (by first | exact ⟨And.intro (hi.1.1) (hi.1.2), hi.2.1, And.intro (hi.2.2.1.1) (hi.2.2.1.2), And.intro (hi.2.2.2.1.1) (hi.2.2.2.1.2), And.intro (hi.2.2.2.2.1.1) (hi.2.2.2.2.1.2), And.intro (hi.2.2.2.2.2.1.1) (hi.2.2.2.2.2.1.2), hi.2.2.2.2.2.2.1, hi.2.2.2.2.2.2.2.1, And.intro (hi.2.2.2.2.2.2.2.2.1.1) (And.intro (hi.2.2.2.2.2.2.2.2.1.2.1) (hi.2.2.2.2.2.2.2.2.1.2.2)), oq_25f0e837 g2008, oq_a93cab5a g2008⟩ | omega) (by first | exact qk_me hm (by decide) (oq_7ba9b3ae g2008) | omega) kx
          ·
            refine z_load_n X (x := z) rfl (List.Mem.tail _ (List.Mem.tail _ (List.Mem.tail _ (List.Mem.head _)))) (z_if_eq X (t := 190) rfl rfl ⟨by first | exact oq_fa4e5087 hi.2.2.2.1.1 | omega, by first | exact oq_d3f5d874 hi.2.2.2.1.2 | omega⟩ (fun g2018 => ?_) (fun g2018 => ?_))
            ·
              refine z_inc X (x := mm) (lv' := [(7, .int (Int32.ofInt (mm + 1))), (0, .ref (A 179)), (1, .int (Int32.ofInt x)), (2, .int (Int32.ofInt y)), (3, .int (Int32.ofInt z)), (4, .int (Int32.ofInt w)), (5, .int (Int32.ofInt u)), (6, .int (Int32.ofInt sv))]) rfl (by decide) (List.Mem.tail _ (List.Mem.tail _ (List.Mem.tail _ (List.Mem.tail _ (List.Mem.tail _ (List.Mem.tail _ (List.Mem.tail _ (List.Mem.head _)))))))) (fun _ h => h) (z_goto X (t := 87) rfl rfl (WS_pq [1, 2, 3, 4, 5, 6, 7, 0] (lv' := [(0, .ref (A 179)), (1, .int (Int32.ofInt x)), (2, .int (Int32.ofInt y)), (3, .int (Int32.ofInt z)), (4, .int (Int32.ofInt w)), (5, .int (Int32.ofInt u)), (6, .int (Int32.ofInt sv)), (7, .int (Int32.ofInt (mm + 1)))]) rfl ?_))
              exact ih _ sv (mm + 1) I F jjRLx jjMDJ jjGTJ jjMZJ (by rw [show mm + 1 = 3 by first | (clear g2006; omega) | omega, gtb_2n (show ¬ 0 < z by first | (clear g2006; omega) | omega)]; have zz := hq; rw [show mm = 2 by first | (clear g2006; omega) | omega] at zz; exact zz) (by first | exact ⟨And.intro (hi.1.1) (hi.1.2), hi.2.1, And.intro (hi.2.2.1.1) (hi.2.2.1.2), And.intro (hi.2.2.2.1.1) (hi.2.2.2.1.2), And.intro (hi.2.2.2.2.1.1) (hi.2.2.2.2.1.2), And.intro (hi.2.2.2.2.2.1.1) (hi.2.2.2.2.2.1.2), hi.2.2.2.2.2.2.1, hi.2.2.2.2.2.2.2.1, And.intro (hi.2.2.2.2.2.2.2.2.1.1) (And.intro (hi.2.2.2.2.2.2.2.2.1.2.1) (hi.2.2.2.2.2.2.2.2.1.2.2)), oq_af66aac3 g2007, oq_8a625f99 g2007⟩ | omega) (by first | exact qk_me hm (by decide) (oq_07728ffc g2007) | omega) kx
            ·
              refine z_load X (x := mm) rfl (List.Mem.tail _ (List.Mem.tail _ (List.Mem.tail _ (List.Mem.tail _ (List.Mem.tail _ (List.Mem.tail _ (List.Mem.tail _ (List.Mem.head _)))))))) (z_const X rfl (z_icmp_ne X (t := 133) rfl rfl ⟨by first | exact oq_2cfdb1ef g2007 | omega, by first | exact oq_9e96a037 g2007 | omega⟩ (by decide) (fun g2019 => ?_) (fun g2019 => ?_)))
              ·
                have esv : sv = iC t 400 (x : Int).toNat := by have zz : iC t 400 (x : Int).toNat = iC s 400 (x : Int).toNat := fm_c F (by decide); omega
                have hga := gtj_at jjGTJ (j := (x : Int).toNat) (by have := jjGTJ.1.1.1; omega)
                have hgz := hga.1
                have hgb := hga.2.1
                have hdn := jjMDJ.1.1
                have hG1 := jjGTJ.1.1.1
                have hhz := hrd_z jjGTJ (x := (x : Int).toNat) (by first | (clear g2019 g2018 g2006; omega) | (clear g2018 g2006; omega) | omega) (fun b hb => (jjGTJ.2.2.2.1.2.2 b hb).1)
                rw [← esv] at hhz
                have hhm := hmo_at jjGTJ (x := (x : Int).toNat) (by first | (clear g2019 g2018 g2006; omega) | (clear g2018 g2006; omega) | omega)
                rw [← esv] at hhm
                have hRr := jjGTJ.2.1 _ hgb hga.2.2.1
                have hRb : 0 ≤ iC t 403 (sv : Int).toNat ∧ iC t 403 (sv : Int).toNat ≤ 24 := by rw [show (sv : Int).toNat = hAt (hitP U S qn) (x : Int).toNat by first | (clear g2019 g2018 g2006; omega) | (clear g2018 g2006; omega) | omega]; exact hRr.elim (fun zz => by rw [zz.1]; decide) (fun zz => by have := zz.1; omega)
                refine z_aload_n X (x := A 179) rfl (List.Mem.head _) (s_getR X 179 rfl (c518_ok rfl) rfl rfl (z_load X (x := sv) rfl (List.Mem.tail _ (List.Mem.tail _ (List.Mem.tail _ (List.Mem.tail _ (List.Mem.tail _ (List.Mem.tail _ (List.Mem.head _))))))) (z_load X (x := mm) rfl (List.Mem.tail _ (List.Mem.tail _ (List.Mem.tail _ (List.Mem.tail _ (List.Mem.tail _ (List.Mem.tail _ (List.Mem.tail _ (List.Mem.head _)))))))) (z_ast X 456 rfl (c518_ok rfl) rfl (by first | exact hi.2.2.2.2.2.2.2.2.1.2.1 | omega) (show sv < 12 by first | exact oq_0ddfcfee hi.2.2.2.2.2.2.2.2.1.2.2 | omega) (cbig_ok rfl) (wd_gen (fun s2020 hs2020 => ?_))))))
                have Is2020 : Bd s2020 := eqB hs2020 (bd_C I (show (0 : Int) ≤ mm ∧ mm ≤ 3 by first | exact ⟨oq_d3dec1fc g2007, oq_783454c6 g2007⟩ | omega) ⟨by first | exact oq_2cfdb1ef g2007 | omega, by first | exact oq_9e96a037 g2007 | omega⟩)
                have Fs2020 := eqF hs2020 (fm_C F (inl_ok (a := 401) rfl))
                have ws2020_105 : iI s2020 105 = iI t 105 := eqI hs2020 rfl
                have ws2020_106 : iI s2020 106 = iI t 106 := eqI hs2020 rfl
                have ws2020_89 : iI s2020 89 = iI t 89 := eqI hs2020 rfl
                have ws2020_90 : iI s2020 90 = iI t 90 := eqI hs2020 rfl
                have fs2020 : Fm [] [401] t s2020 := by rw [hs2020]; exact fm_C (fm_rf _ _ _) (show 401 ∈ _ by decide)
                have JRLx_s2020 : RLx s2020 := RLx_fm fs2020 (by decide) jjRLx
                have JMDJ_s2020 : MDJ U s2020 := MDJ_fm fs2020 (by decide) jjMDJ
                have JGTJ_s2020 : GTJ U S qn ft s2020 := GTJ_fm fs2020 (by decide) jjGTJ
                have hU9 : s2020 = uC t 401 (iC t 400 (x : Int).toNat).toNat (Int32.ofInt mm) := by rw [← esv]; exact hs2020
                have hMZ : MZJ U (hitP U S qn) s2020 := mzj_u jjGTJ (by first | (clear g2019 g2018 g2006; omega) | (clear g2018 g2006; omega) | omega) jjMZJ hU9
                have hGP : GTP U (hitP U S qn) (gtB (hmoS U S qn) (hrdS U S qn) ft (cHt (hitP U S qn) (uN U)) (mdM s) (x : Int).toNat u z w B mm) (x + 1) s2020 := gtp_in jjGTJ p8 hq (fun i => fm_c F (by decide)) (fun i => fm_c F (by decide)) (by first | (clear g2019 g2018 g2006; omega) | (clear g2018 g2006; omega) | omega) (by first | (clear g2019 g2018 g2006; omega) | (clear g2018 g2006; omega) | omega) hU9 (fun _ => by rw [← esv]; omega)
                refine z_aload_n X (x := A 179) rfl (List.Mem.head _) (z_load_n X (x := x) rfl (List.Mem.tail _ (List.Mem.head _)) (z_const X rfl (z_add X rfl (z_load_n X (x := y) rfl (List.Mem.tail _ (List.Mem.tail _ (List.Mem.head _))) (z_load X (x := mm) rfl (List.Mem.tail _ (List.Mem.tail _ (List.Mem.tail _ (List.Mem.tail _ (List.Mem.tail _ (List.Mem.tail _ (List.Mem.tail _ (List.Mem.head _)))))))) (z_const X rfl (z_icmp_ne X (t := 159) rfl rfl ⟨by first | exact oq_2cfdb1ef g2007 | omega, by first | exact oq_9e96a037 g2007 | omega⟩ (by decide) (fun g2021 => ?_) (fun g2021 => ?_))))))))
                ·
                  exfalso
                  omega
                ·
                  refine z_load_n X (x := z) rfl (List.Mem.tail _ (List.Mem.tail _ (List.Mem.tail _ (List.Mem.head _)))) (z_const X rfl (z_sub X rfl (z_goto X (t := 160) rfl rfl (z_load X (x := mm) rfl (List.Mem.tail _ (List.Mem.tail _ (List.Mem.tail _ (List.Mem.tail _ (List.Mem.tail _ (List.Mem.tail _ (List.Mem.tail _ (List.Mem.head _)))))))) (z_const X rfl (z_icmp_ne X (t := 173) rfl rfl ⟨by first | exact oq_2cfdb1ef g2021 | omega, by first | exact oq_9e96a037 g2021 | omega⟩ (by decide) (fun g2022 => ?_) (fun g2022 => ?_)))))))
                  ·
                    refine z_load X (x := w) rfl (List.Mem.tail _ (List.Mem.tail _ (List.Mem.tail _ (List.Mem.tail _ (List.Mem.head _))))) (z_load X (x := u) rfl (List.Mem.tail _ (List.Mem.tail _ (List.Mem.tail _ (List.Mem.tail _ (List.Mem.tail _ (List.Mem.head _)))))) (z_aload_n X (x := A 179) rfl (List.Mem.head _) (z_load X (x := sv) rfl (List.Mem.tail _ (List.Mem.tail _ (List.Mem.tail _ (List.Mem.tail _ (List.Mem.tail _ (List.Mem.tail _ (List.Mem.head _))))))) (z_load X (x := mm) rfl (List.Mem.tail _ (List.Mem.tail _ (List.Mem.tail _ (List.Mem.tail _ (List.Mem.tail _ (List.Mem.tail _ (List.Mem.tail _ (List.Mem.head _)))))))) (z_load_n X (x := y) rfl (List.Mem.tail _ (List.Mem.tail _ (List.Mem.head _))) ?_)))))
                    have hrn : iC s2020 403 (sv : Int).toNat = iC t 403 (sv : Int).toNat := eqC hs2020 (iC_a (by decide))
                    refine z_callV X 179 (rm := rmN 282) (As := [.int (Int32.ofInt sv), .int (Int32.ofInt mm), .int (Int32.ofInt y)]) (st := [.int (Int32.ofInt u), .int (Int32.ofInt w), .int (Int32.ofInt (z - 1)), .int (Int32.ofInt y), .int (Int32.ofInt (x + 1)), .ref (A 179)]) rfl rfl (by decide) rfl (by rw [E.1, E.2.1, E.2.2.1]; exact k_minutes9 G Is2020 JMDJ_s2020 (by first | exact ⟨hi.2.2.2.2.2.2.2.2.1.2.1, by first | (clear g2022 g2019 g2018 g2006; omega) | (clear g2019 g2018 g2006; omega) | omega⟩ | omega) (by first | exact ⟨hi.2.2.2.2.2.2.2.2.2.1, oq_783454c6 g2021⟩ | omega) (by first | exact ⟨hi.2.2.1.1, hi.2.2.1.2⟩ | omega) (by first | exact ⟨oq_e4757433 hrn hRb.1, oq_74332778 hrn hRb.2⟩ | omega)) ⟨by rw [E.2.2.2]; exact (show 8 + 1 ≤ (12 + (52 + (r + 1))) from oq_edd5f4e9 r), by rw [E.2.2.2]; exact (show 8 + (5 + 11) + 146 ≤ (500 + 45 * (52 + (r + 1))) from oq_2709c6fe r), by rw [E.2.2.2]; exact Nat.le_refl 0, by rw [E.2.2.2]; exact Nat.le_refl 0⟩ (Nat.le_of_ble_eq_true rfl) (fun vv s2023 hq => ?_) (fun ee s2023 hq => ?_)
                    rotate_left
                    · obtain ⟨Is2023, Fs2023, e2024, hv, hrs2023, hps2023⟩ := hq; cases hv
                    obtain ⟨Is2023, Fs2023, e2024, hv, hrs2023, hps2023⟩ := hq
                    have hps2023p := hps2023.1
                    cases hv
                    have Gs2023 := fm_tq Fs2020 Fs2023 rfl rfl
                    have JRLx_s2023 : RLx s2023 := RLx_fm Fs2023 (by decide) JRLx_s2020
                    have JMDJ_s2023 : MDJ U s2023 := MDJ_fm Fs2023 (by decide) JMDJ_s2020
                    have JGTJ_s2023 : GTJ U S qn ft s2023 := GTJ_fm Fs2023 (by decide) JGTJ_s2020
                    have JMZJ_s2023 : MZJ U (hitP U S qn) s2023 := MZJ_fm Fs2023 (by decide) hMZ
                    have ws2023_105 : iI s2023 105 = iI s2020 105 := fm_iq Fs2023 rfl
                    have ws2023_106 : iI s2023 106 = iI s2020 106 := fm_iq Fs2023 rfl
                    have ws2023_89 : iI s2023 89 = iI s2020 89 := fm_iq Fs2023 rfl
                    have ws2023_90 : iI s2023 90 = iI s2020 90 := fm_iq Fs2023 rfl
                    show WS k 186 [(0, .ref (A 179)), (1, .int (Int32.ofInt x)), (2, .int (Int32.ofInt y)), (3, .int (Int32.ofInt z)), (4, .int (Int32.ofInt w)), (5, .int (Int32.ofInt u)), (6, .int (Int32.ofInt sv)), (7, .int (Int32.ofInt mm))] [.int (Int32.ofInt e2024), .int (Int32.ofInt u), .int (Int32.ofInt w), .int (Int32.ofInt (z - 1)), .int (Int32.ofInt y), .int (Int32.ofInt (x + 1)), .ref (A 179)] (Wd A dT s2023) 0 0
                    have hmb := hps2023.1
                    refine z_add X rfl (z_callV X 179 (rm := (rkR (52 + (r)))) (As := [.int (Int32.ofInt (x + 1)), .int (Int32.ofInt y), .int (Int32.ofInt (z - 1)), .int (Int32.ofInt w), .int (Int32.ofInt (u + e2024))]) (st := []) rfl rfl (by decide) rfl (by rw [E.1, E.2.1, E.2.2.1]; exact hR Is2023 JRLx_s2023 JMDJ_s2023 JGTJ_s2023 JMZJ_s2023 (by first | exact ⟨oq_54f49eb5 hi.1.1, oq_11bbe77e ws2023_105 hi.1.2 ws2020_105 hi.2.2.2.2.2.2.1⟩ | omega) (by first | exact oq_7e901d26 p1 ws2023_105 ws2020_105 hi.2.2.2.2.2.2.1 | omega) (by first | exact oq_e14d47df ws2023_105 ws2020_105 hi.2.2.2.2.2.2.1 hi.2.1 | omega) (by first | exact p3 | omega) (by first | exact ⟨hi.2.2.1.1, hi.2.2.1.2⟩ | omega) (by first | exact ⟨oq_8af9d5df g2018 hi.2.2.2.1.1, oq_d7fe5c3c hi.2.2.2.1.2⟩ | omega) (by first | exact ⟨hi.2.2.2.2.1.1, hi.2.2.2.2.1.2⟩ | omega) (by first | (clear hps2023 g2022 g2019 g2018 g2006; omega) | (clear g2022 g2019 g2018 g2006; omega) | omega) ((gtp_fm Fs2023 (by decide) hGP))) ⟨by rw [E.2.2.2]; exact (show (12 + (52 + (r))) + 1 ≤ (12 + (52 + (r + 1))) from oq_c268f935 r), by rw [E.2.2.2]; exact (show 8 + (8 + 11) + (500 + 45 * (52 + (r))) ≤ (500 + 45 * (52 + (r + 1))) from oq_488e467a r), by rw [E.2.2.2]; exact Nat.le_refl 0, by rw [E.2.2.2]; exact Nat.le_refl 0⟩ (Nat.le_of_ble_eq_true rfl) (fun vv s2025 hq => ?_) (fun ee s2025 hq => ?_))
                    rotate_left
                    · obtain ⟨Is2025, Fs2025, JRLx_s2025, JMZJ_s2025, hv, hps2025⟩ := hq; cases hv
                    obtain ⟨Is2025, Fs2025, JRLx_s2025, JMZJ_s2025, hv, hps2025⟩ := hq
                    cases hv
                    have Gs2025 := fm_tq Gs2023 Fs2025 rfl rfl
                    have JRLx_s2025 : RLx s2025 := RLx_fm Fs2025 (by decide) JRLx_s2023
                    have JMDJ_s2025 : MDJ U s2025 := MDJ_fm Fs2025 (by decide) JMDJ_s2023
                    have JGTJ_s2025 : GTJ U S qn ft s2025 := GTJ_fm Fs2025 (by decide) JGTJ_s2023
                    have ws2025_105 : iI s2025 105 = iI s2023 105 := fm_iq Fs2025 rfl
                    have b2027 := bi_106 Is2025
                    have ws2025_89 : iI s2025 89 = iI s2023 89 := fm_iq Fs2025 rfl
                    have ws2025_90 : iI s2025 90 = iI s2023 90 := fm_iq Fs2025 rfl
                    show WS k 190 [(0, .ref (A 179)), (1, .int (Int32.ofInt x)), (2, .int (Int32.ofInt y)), (3, .int (Int32.ofInt z)), (4, .int (Int32.ofInt w)), (5, .int (Int32.ofInt u)), (6, .int (Int32.ofInt sv)), (7, .int (Int32.ofInt mm))] [] (Wd A dT s2025) 0 0
                    refine z_inc X (x := mm) (lv' := [(7, .int (Int32.ofInt (mm + 1))), (0, .ref (A 179)), (1, .int (Int32.ofInt x)), (2, .int (Int32.ofInt y)), (3, .int (Int32.ofInt z)), (4, .int (Int32.ofInt w)), (5, .int (Int32.ofInt u)), (6, .int (Int32.ofInt sv))]) rfl (by decide) (List.Mem.tail _ (List.Mem.tail _ (List.Mem.tail _ (List.Mem.tail _ (List.Mem.tail _ (List.Mem.tail _ (List.Mem.tail _ (List.Mem.head _)))))))) (fun _ h => h) (z_goto X (t := 87) rfl rfl (WS_pq [1, 2, 3, 4, 5, 6, 7, 0] (lv' := [(0, .ref (A 179)), (1, .int (Int32.ofInt x)), (2, .int (Int32.ofInt y)), (3, .int (Int32.ofInt z)), (4, .int (Int32.ofInt w)), (5, .int (Int32.ofInt u)), (6, .int (Int32.ofInt sv)), (7, .int (Int32.ofInt (mm + 1)))]) rfl ?_))
                    have hev : e2024 = 15 * hmoS U S qn (x : Int).toNat := by rw [hhm]; have zz := hps2023.2; rw [show (y : Int).toNat = qn by first | (clear hps2023 g2022 g2019 g2018 g2006; omega) | (clear g2022 g2019 g2018 g2006; omega) | omega] at zz; rcases zz with zz | zz | zz; (· exact absurd zz.1 (by first | (clear hps2023 g2022 g2019 g2018 g2006; omega) | (clear g2022 g2019 g2018 g2006; omega) | omega)); (· exact zz.2); (· exact absurd zz.1 (by first | (clear hps2023 g2022 g2019 g2018 g2006; omega) | (clear g2022 g2019 g2018 g2006; omega) | omega))
                    have hgg0 : GTQ U S qn ft (gtB (hmoS U S qn) (hrdS U S qn) ft (cHt (hitP U S qn) (uN U)) (mdM s) (x : Int).toNat u z w B mm) (x + 1) (u + 15 * hmoS U S qn (x : Int).toNat) (z - 1) w s2023 s2025 := by have zz := hps2025; rw [hev] at zz; exact zz
                    have hgg := gtq_s (b := s2020) (fun j => mdm_fm Fs2023 (by decide) j) hgg0
                    exact ih _ sv (mm + 1) Is2025 Gs2025 JRLx_s2025 JMDJ_s2025 JGTJ_s2025 JMZJ_s2025 (by rw [show mm + 1 = 3 by first | (clear hps2023 g2022 g2019 g2018 g2006; omega) | (clear g2022 g2019 g2018 g2006; omega) | omega, gtb_2 (show 0 < z by first | (clear hps2023 g2022 g2019 g2018 g2006; omega) | (clear g2022 g2019 g2018 g2006; omega) | omega)]; have zz := tsm_call (m := mm) jjGTJ hq (by first | (clear hps2023 g2022 g2019 g2018 g2006; omega) | (clear g2022 g2019 g2018 g2006; omega) | omega) (by first | (clear hps2023 g2022 g2019 g2018 g2006; omega) | (clear g2022 g2019 g2018 g2006; omega) | omega) hU9 hgg; rw [show mm = 2 by first | (clear hps2023 g2022 g2019 g2018 g2006; omega) | (clear g2022 g2019 g2018 g2006; omega) | omega] at zz; exact zz) (by first | exact ⟨And.intro (hi.1.1) (hi.1.2), hi.2.1, And.intro (hi.2.2.1.1) (hi.2.2.1.2), And.intro (hi.2.2.2.1.1) (hi.2.2.2.1.2), And.intro (hi.2.2.2.2.1.1) (hi.2.2.2.2.1.2), And.intro (hi.2.2.2.2.2.1.1) (hi.2.2.2.2.2.1.2), oq_ac0e91e1 ws2025_105 ws2023_105 ws2020_105 hi.2.2.2.2.2.2.1, oq_45b593e3 ws2025_90 hi.2.2.2.2.2.2.2.1 ws2023_90 ws2020_90, And.intro (hi.2.2.2.2.2.2.2.2.1.1) (And.intro (hi.2.2.2.2.2.2.2.2.1.2.1) (hi.2.2.2.2.2.2.2.2.1.2.2)), oq_af66aac3 g2021, oq_8a625f99 g2021⟩ | omega) (by first | exact qk_me hm (by decide) (oq_07728ffc g2021) | omega) kx
                  ·
                    exfalso
                    omega
              ·
                exfalso
                omega
        ·
          refine z_aload_n X (x := A 179) rfl (List.Mem.head _) (s_getR X 179 rfl (c518_ok rfl) rfl rfl (z_load X (x := sv) rfl (List.Mem.tail _ (List.Mem.tail _ (List.Mem.tail _ (List.Mem.tail _ (List.Mem.tail _ (List.Mem.tail _ (List.Mem.head _))))))) (z_ald X 458 rfl (c518_ok rfl) rfl (by first | exact hi.2.2.2.2.2.2.2.2.1.2.1 | omega) (show sv < 12 by first | exact oq_0ddfcfee hi.2.2.2.2.2.2.2.2.1.2.2 | omega) (cbig_ok rfl) ?_)))
          have b2028 := bc_403 I (show (sv).toNat < 12 by first | exact oq_9c5fa447 hi.2.2.2.2.2.2.2.2.1.2.2 | omega)
          refine z_if_eq X (t := 190) rfl rfl (rng_to _) (fun g2029 => ?_) (fun g2029 => ?_)
          ·
            refine z_inc X (x := mm) (lv' := [(7, .int (Int32.ofInt (mm + 1))), (0, .ref (A 179)), (1, .int (Int32.ofInt x)), (2, .int (Int32.ofInt y)), (3, .int (Int32.ofInt z)), (4, .int (Int32.ofInt w)), (5, .int (Int32.ofInt u)), (6, .int (Int32.ofInt sv))]) rfl (by decide) (List.Mem.tail _ (List.Mem.tail _ (List.Mem.tail _ (List.Mem.tail _ (List.Mem.tail _ (List.Mem.tail _ (List.Mem.tail _ (List.Mem.head _)))))))) (fun _ h => h) (z_goto X (t := 87) rfl rfl (WS_pq [1, 2, 3, 4, 5, 6, 7, 0] (lv' := [(0, .ref (A 179)), (1, .int (Int32.ofInt x)), (2, .int (Int32.ofInt y)), (3, .int (Int32.ofInt z)), (4, .int (Int32.ofInt w)), (5, .int (Int32.ofInt u)), (6, .int (Int32.ofInt sv)), (7, .int (Int32.ofInt (mm + 1)))]) rfl ?_))
            exact ih _ sv (mm + 1) I F jjRLx jjMDJ jjGTJ jjMZJ (by rw [show mm + 1 = 2 by omega, gtb_1n (fun w => w ((hrd_z jjGTJ (x := (x : Int).toNat) (by have := jjGTJ.1.1.1; omega) (fun b hb => (jjGTJ.2.2.2.1.2.2 b hb).1)).1.mp (by rw [← (show sv = iC t 400 (x : Int).toNat by have zz : iC t 400 (x : Int).toNat = iC s 400 (x : Int).toNat := fm_c F (by decide); omega)]; omega)))]; have zz := hq; rw [show mm = 1 by omega] at zz; exact zz) (by first | exact ⟨And.intro (hi.1.1) (hi.1.2), hi.2.1, And.intro (hi.2.2.1.1) (hi.2.2.1.2), And.intro (hi.2.2.2.1.1) (hi.2.2.2.1.2), And.intro (hi.2.2.2.2.1.1) (hi.2.2.2.2.1.2), And.intro (hi.2.2.2.2.2.1.1) (hi.2.2.2.2.2.1.2), hi.2.2.2.2.2.2.1, hi.2.2.2.2.2.2.2.1, And.intro (hi.2.2.2.2.2.2.2.2.1.1) (And.intro (hi.2.2.2.2.2.2.2.2.1.2.1) (hi.2.2.2.2.2.2.2.2.1.2.2)), oq_82935c17 g2006, oq_0a5951b8 g2006⟩ | omega) (by first | exact qk_me hm (by decide) (oq_6b61a495 g2006) | omega) kx
          ·
            refine z_load X (x := mm) rfl (List.Mem.tail _ (List.Mem.tail _ (List.Mem.tail _ (List.Mem.tail _ (List.Mem.tail _ (List.Mem.tail _ (List.Mem.tail _ (List.Mem.head _)))))))) (z_const X rfl (z_icmp_ne X (t := 119) rfl rfl ⟨by first | exact oq_c4d5fd5b g2006 | omega, by first | exact oq_9b80f9a5 g2006 | omega⟩ (by decide) (fun g2030 => ?_) (fun g2030 => ?_)))
            ·
              refine z_load X (x := mm) rfl (List.Mem.tail _ (List.Mem.tail _ (List.Mem.tail _ (List.Mem.tail _ (List.Mem.tail _ (List.Mem.tail _ (List.Mem.tail _ (List.Mem.head _)))))))) (z_const X rfl (z_icmp_ne X (t := 133) rfl rfl ⟨by first | exact oq_c4d5fd5b g2006 | omega, by first | exact oq_9b80f9a5 g2006 | omega⟩ (by decide) (fun g2031 => ?_) (fun g2031 => ?_)))
              ·
                have esv : sv = iC t 400 (x : Int).toNat := by have zz : iC t 400 (x : Int).toNat = iC s 400 (x : Int).toNat := fm_c F (by decide); omega
                have hga := gtj_at jjGTJ (j := (x : Int).toNat) (by have := jjGTJ.1.1.1; omega)
                have hgz := hga.1
                have hgb := hga.2.1
                have hdn := jjMDJ.1.1
                have hG1 := jjGTJ.1.1.1
                have hhz := hrd_z jjGTJ (x := (x : Int).toNat) (by first | (clear g2031 g2030 g2029; omega) | (clear g2030 g2029; omega) | omega) (fun b hb => (jjGTJ.2.2.2.1.2.2 b hb).1)
                rw [← esv] at hhz
                have hhm := hmo_at jjGTJ (x := (x : Int).toNat) (by first | (clear g2031 g2030 g2029; omega) | (clear g2030 g2029; omega) | omega)
                rw [← esv] at hhm
                have hRr := jjGTJ.2.1 _ hgb hga.2.2.1
                have hRb : 0 ≤ iC t 403 (sv : Int).toNat ∧ iC t 403 (sv : Int).toNat ≤ 24 := by rw [show (sv : Int).toNat = hAt (hitP U S qn) (x : Int).toNat by first | (clear g2031 g2030 g2029; omega) | (clear g2030 g2029; omega) | omega]; exact hRr.elim (fun zz => by rw [zz.1]; decide) (fun zz => by have := zz.1; omega)
                refine z_aload_n X (x := A 179) rfl (List.Mem.head _) (s_getR X 179 rfl (c518_ok rfl) rfl rfl (z_load X (x := sv) rfl (List.Mem.tail _ (List.Mem.tail _ (List.Mem.tail _ (List.Mem.tail _ (List.Mem.tail _ (List.Mem.tail _ (List.Mem.head _))))))) (z_load X (x := mm) rfl (List.Mem.tail _ (List.Mem.tail _ (List.Mem.tail _ (List.Mem.tail _ (List.Mem.tail _ (List.Mem.tail _ (List.Mem.tail _ (List.Mem.head _)))))))) (z_ast X 456 rfl (c518_ok rfl) rfl (by first | exact hi.2.2.2.2.2.2.2.2.1.2.1 | omega) (show sv < 12 by first | exact oq_0ddfcfee hi.2.2.2.2.2.2.2.2.1.2.2 | omega) (cbig_ok rfl) (wd_gen (fun s2032 hs2032 => ?_))))))
                have Is2032 : Bd s2032 := eqB hs2032 (bd_C I (show (0 : Int) ≤ mm ∧ mm ≤ 3 by first | exact ⟨oq_a1cdbcd8 g2006, oq_c7e375ff g2006⟩ | omega) ⟨by first | exact oq_c4d5fd5b g2006 | omega, by first | exact oq_9b80f9a5 g2006 | omega⟩)
                have Fs2032 := eqF hs2032 (fm_C F (inl_ok (a := 401) rfl))
                have ws2032_105 : iI s2032 105 = iI t 105 := eqI hs2032 rfl
                have ws2032_106 : iI s2032 106 = iI t 106 := eqI hs2032 rfl
                have ws2032_89 : iI s2032 89 = iI t 89 := eqI hs2032 rfl
                have ws2032_90 : iI s2032 90 = iI t 90 := eqI hs2032 rfl
                have fs2032 : Fm [] [401] t s2032 := by rw [hs2032]; exact fm_C (fm_rf _ _ _) (show 401 ∈ _ by decide)
                have JRLx_s2032 : RLx s2032 := RLx_fm fs2032 (by decide) jjRLx
                have JMDJ_s2032 : MDJ U s2032 := MDJ_fm fs2032 (by decide) jjMDJ
                have JGTJ_s2032 : GTJ U S qn ft s2032 := GTJ_fm fs2032 (by decide) jjGTJ
                have hU9 : s2032 = uC t 401 (iC t 400 (x : Int).toNat).toNat (Int32.ofInt mm) := by rw [← esv]; exact hs2032
                have hMZ : MZJ U (hitP U S qn) s2032 := mzj_u jjGTJ (by first | (clear g2031 g2030 g2029; omega) | (clear g2030 g2029; omega) | omega) jjMZJ hU9
                have hGP : GTP U (hitP U S qn) (gtB (hmoS U S qn) (hrdS U S qn) ft (cHt (hitP U S qn) (uN U)) (mdM s) (x : Int).toNat u z w B mm) (x + 1) s2032 := gtp_in jjGTJ p8 hq (fun i => fm_c F (by decide)) (fun i => fm_c F (by decide)) (by first | (clear g2031 g2030 g2029; omega) | (clear g2030 g2029; omega) | omega) (by first | (clear g2031 g2030 g2029; omega) | (clear g2030 g2029; omega) | omega) hU9 (fun _ => by rw [← esv]; omega)
                refine z_aload_n X (x := A 179) rfl (List.Mem.head _) (z_load_n X (x := x) rfl (List.Mem.tail _ (List.Mem.head _)) (z_const X rfl (z_add X rfl (z_load_n X (x := y) rfl (List.Mem.tail _ (List.Mem.tail _ (List.Mem.head _))) (z_load X (x := mm) rfl (List.Mem.tail _ (List.Mem.tail _ (List.Mem.tail _ (List.Mem.tail _ (List.Mem.tail _ (List.Mem.tail _ (List.Mem.tail _ (List.Mem.head _)))))))) (z_const X rfl (z_icmp_ne X (t := 159) rfl rfl ⟨by first | exact oq_c4d5fd5b g2006 | omega, by first | exact oq_9b80f9a5 g2006 | omega⟩ (by decide) (fun g2033 => ?_) (fun g2033 => ?_))))))))
                ·
                  refine z_load_n X (x := z) rfl (List.Mem.tail _ (List.Mem.tail _ (List.Mem.tail _ (List.Mem.head _)))) (z_load X (x := mm) rfl (List.Mem.tail _ (List.Mem.tail _ (List.Mem.tail _ (List.Mem.tail _ (List.Mem.tail _ (List.Mem.tail _ (List.Mem.tail _ (List.Mem.head _)))))))) (z_const X rfl (z_icmp_ne X (t := 173) rfl rfl ⟨by first | exact oq_c4d5fd5b g2006 | omega, by first | exact oq_9b80f9a5 g2006 | omega⟩ (by decide) (fun g2034 => ?_) (fun g2034 => ?_))))
                  ·
                    refine z_load X (x := w) rfl (List.Mem.tail _ (List.Mem.tail _ (List.Mem.tail _ (List.Mem.tail _ (List.Mem.head _))))) (z_load X (x := u) rfl (List.Mem.tail _ (List.Mem.tail _ (List.Mem.tail _ (List.Mem.tail _ (List.Mem.tail _ (List.Mem.head _)))))) (z_aload_n X (x := A 179) rfl (List.Mem.head _) (z_load X (x := sv) rfl (List.Mem.tail _ (List.Mem.tail _ (List.Mem.tail _ (List.Mem.tail _ (List.Mem.tail _ (List.Mem.tail _ (List.Mem.head _))))))) (z_load X (x := mm) rfl (List.Mem.tail _ (List.Mem.tail _ (List.Mem.tail _ (List.Mem.tail _ (List.Mem.tail _ (List.Mem.tail _ (List.Mem.tail _ (List.Mem.head _)))))))) (z_load_n X (x := y) rfl (List.Mem.tail _ (List.Mem.tail _ (List.Mem.head _))) ?_)))))
                    have hrn : iC s2032 403 (sv : Int).toNat = iC t 403 (sv : Int).toNat := eqC hs2032 (iC_a (by decide))
                    refine z_callV X 179 (rm := rmN 282) (As := [.int (Int32.ofInt sv), .int (Int32.ofInt mm), .int (Int32.ofInt y)]) (st := [.int (Int32.ofInt u), .int (Int32.ofInt w), .int (Int32.ofInt z), .int (Int32.ofInt y), .int (Int32.ofInt (x + 1)), .ref (A 179)]) rfl rfl (by decide) rfl (by rw [E.1, E.2.1, E.2.2.1]; exact k_minutes9 G Is2032 JMDJ_s2032 (by first | exact ⟨hi.2.2.2.2.2.2.2.2.1.2.1, by first | (clear g2034 g2033 g2031 g2030 g2029; omega) | (clear g2033 g2031 g2030 g2029; omega) | omega⟩ | omega) (by first | exact ⟨hi.2.2.2.2.2.2.2.2.2.1, oq_c7e375ff g2006⟩ | omega) (by first | exact ⟨hi.2.2.1.1, hi.2.2.1.2⟩ | omega) (by first | exact ⟨oq_e4757433 hrn hRb.1, oq_74332778 hrn hRb.2⟩ | omega)) ⟨by rw [E.2.2.2]; exact (show 8 + 1 ≤ (12 + (52 + (r + 1))) from oq_edd5f4e9 r), by rw [E.2.2.2]; exact (show 8 + (5 + 11) + 146 ≤ (500 + 45 * (52 + (r + 1))) from oq_2709c6fe r), by rw [E.2.2.2]; exact Nat.le_refl 0, by rw [E.2.2.2]; exact Nat.le_refl 0⟩ (Nat.le_of_ble_eq_true rfl) (fun vv s2035 hq => ?_) (fun ee s2035 hq => ?_)
                    rotate_left
                    · obtain ⟨Is2035, Fs2035, e2036, hv, hrs2035, hps2035⟩ := hq; cases hv
                    obtain ⟨Is2035, Fs2035, e2036, hv, hrs2035, hps2035⟩ := hq
                    have hps2035p := hps2035.1
                    cases hv
                    have Gs2035 := fm_tq Fs2032 Fs2035 rfl rfl
                    have JRLx_s2035 : RLx s2035 := RLx_fm Fs2035 (by decide) JRLx_s2032
                    have JMDJ_s2035 : MDJ U s2035 := MDJ_fm Fs2035 (by decide) JMDJ_s2032
                    have JGTJ_s2035 : GTJ U S qn ft s2035 := GTJ_fm Fs2035 (by decide) JGTJ_s2032
                    have JMZJ_s2035 : MZJ U (hitP U S qn) s2035 := MZJ_fm Fs2035 (by decide) hMZ
                    have ws2035_105 : iI s2035 105 = iI s2032 105 := fm_iq Fs2035 rfl
                    have ws2035_106 : iI s2035 106 = iI s2032 106 := fm_iq Fs2035 rfl
                    have ws2035_89 : iI s2035 89 = iI s2032 89 := fm_iq Fs2035 rfl
                    have ws2035_90 : iI s2035 90 = iI s2032 90 := fm_iq Fs2035 rfl
                    show WS k 186 [(0, .ref (A 179)), (1, .int (Int32.ofInt x)), (2, .int (Int32.ofInt y)), (3, .int (Int32.ofInt z)), (4, .int (Int32.ofInt w)), (5, .int (Int32.ofInt u)), (6, .int (Int32.ofInt sv)), (7, .int (Int32.ofInt mm))] [.int (Int32.ofInt e2036), .int (Int32.ofInt u), .int (Int32.ofInt w), .int (Int32.ofInt z), .int (Int32.ofInt y), .int (Int32.ofInt (x + 1)), .ref (A 179)] (Wd A dT s2035) 0 0
                    have hmb := hps2035.1
                    refine z_add X rfl (z_callV X 179 (rm := (rkR (52 + (r)))) (As := [.int (Int32.ofInt (x + 1)), .int (Int32.ofInt y), .int (Int32.ofInt z), .int (Int32.ofInt w), .int (Int32.ofInt (u + e2036))]) (st := []) rfl rfl (by decide) rfl (by rw [E.1, E.2.1, E.2.2.1]; exact hR Is2035 JRLx_s2035 JMDJ_s2035 JGTJ_s2035 JMZJ_s2035 (by first | exact ⟨oq_54f49eb5 hi.1.1, oq_11bbe77e ws2035_105 hi.1.2 ws2032_105 hi.2.2.2.2.2.2.1⟩ | omega) (by first | exact oq_7e901d26 p1 ws2035_105 ws2032_105 hi.2.2.2.2.2.2.1 | omega) (by first | exact oq_e14d47df ws2035_105 ws2032_105 hi.2.2.2.2.2.2.1 hi.2.1 | omega) (by first | exact p3 | omega) (by first | exact ⟨hi.2.2.1.1, hi.2.2.1.2⟩ | omega) (by first | exact ⟨hi.2.2.2.1.1, hi.2.2.2.1.2⟩ | omega) (by first | exact ⟨hi.2.2.2.2.1.1, hi.2.2.2.2.1.2⟩ | omega) (by first | (clear hps2035 g2034 g2033 g2031 g2030 g2029; omega) | (clear g2034 g2033 g2031 g2030 g2029; omega) | omega) ((gtp_fm Fs2035 (by decide) hGP))) ⟨by rw [E.2.2.2]; exact (show (12 + (52 + (r))) + 1 ≤ (12 + (52 + (r + 1))) from oq_c268f935 r), by rw [E.2.2.2]; exact (show 8 + (8 + 11) + (500 + 45 * (52 + (r))) ≤ (500 + 45 * (52 + (r + 1))) from oq_488e467a r), by rw [E.2.2.2]; exact Nat.le_refl 0, by rw [E.2.2.2]; exact Nat.le_refl 0⟩ (Nat.le_of_ble_eq_true rfl) (fun vv s2037 hq => ?_) (fun ee s2037 hq => ?_))
                    rotate_left
                    · obtain ⟨Is2037, Fs2037, JRLx_s2037, JMZJ_s2037, hv, hps2037⟩ := hq; cases hv
                    obtain ⟨Is2037, Fs2037, JRLx_s2037, JMZJ_s2037, hv, hps2037⟩ := hq
                    cases hv
                    have Gs2037 := fm_tq Gs2035 Fs2037 rfl rfl
                    have JRLx_s2037 : RLx s2037 := RLx_fm Fs2037 (by decide) JRLx_s2035
                    have JMDJ_s2037 : MDJ U s2037 := MDJ_fm Fs2037 (by decide) JMDJ_s2035
                    have JGTJ_s2037 : GTJ U S qn ft s2037 := GTJ_fm Fs2037 (by decide) JGTJ_s2035
                    have ws2037_105 : iI s2037 105 = iI s2035 105 := fm_iq Fs2037 rfl
                    have b2039 := bi_106 Is2037
                    have ws2037_89 : iI s2037 89 = iI s2035 89 := fm_iq Fs2037 rfl
                    have ws2037_90 : iI s2037 90 = iI s2035 90 := fm_iq Fs2037 rfl
                    show WS k 190 [(0, .ref (A 179)), (1, .int (Int32.ofInt x)), (2, .int (Int32.ofInt y)), (3, .int (Int32.ofInt z)), (4, .int (Int32.ofInt w)), (5, .int (Int32.ofInt u)), (6, .int (Int32.ofInt sv)), (7, .int (Int32.ofInt mm))] [] (Wd A dT s2037) 0 0
                    refine z_inc X (x := mm) (lv' := [(7, .int (Int32.ofInt (mm + 1))), (0, .ref (A 179)), (1, .int (Int32.ofInt x)), (2, .int (Int32.ofInt y)), (3, .int (Int32.ofInt z)), (4, .int (Int32.ofInt w)), (5, .int (Int32.ofInt u)), (6, .int (Int32.ofInt sv))]) rfl (by decide) (List.Mem.tail _ (List.Mem.tail _ (List.Mem.tail _ (List.Mem.tail _ (List.Mem.tail _ (List.Mem.tail _ (List.Mem.tail _ (List.Mem.head _)))))))) (fun _ h => h) (z_goto X (t := 87) rfl rfl (WS_pq [1, 2, 3, 4, 5, 6, 7, 0] (lv' := [(0, .ref (A 179)), (1, .int (Int32.ofInt x)), (2, .int (Int32.ofInt y)), (3, .int (Int32.ofInt z)), (4, .int (Int32.ofInt w)), (5, .int (Int32.ofInt u)), (6, .int (Int32.ofInt sv)), (7, .int (Int32.ofInt (mm + 1)))]) rfl ?_))
                    have hev : e2036 = hrdS U S qn (x : Int).toNat := by rw [hhz.2 (by first | (clear hps2035 g2034 g2033 g2031 g2030 g2029; omega) | (clear g2034 g2033 g2031 g2030 g2029; omega) | omega)]; have zz := hps2035.2; rw [hrn] at zz; rw [show (y : Int).toNat = qn by first | (clear hps2035 g2034 g2033 g2031 g2030 g2029; omega) | (clear g2034 g2033 g2031 g2030 g2029; omega) | omega] at zz; rcases zz with zz | zz | zz; (· exact zz.2); (· exact absurd zz.1 (by first | (clear hps2035 g2034 g2033 g2031 g2030 g2029; omega) | (clear g2034 g2033 g2031 g2030 g2029; omega) | omega)); (· exact absurd zz.1 (by first | (clear hps2035 g2034 g2033 g2031 g2030 g2029; omega) | (clear g2034 g2033 g2031 g2030 g2029; omega) | omega))
                    have hgg0 : GTQ U S qn ft (gtB (hmoS U S qn) (hrdS U S qn) ft (cHt (hitP U S qn) (uN U)) (mdM s) (x : Int).toNat u z w B mm) (x + 1) (u + hrdS U S qn (x : Int).toNat) z w s2035 s2037 := by have zz := hps2037; rw [hev] at zz; exact zz
                    have hgg := gtq_s (b := s2032) (fun j => mdm_fm Fs2035 (by decide) j) hgg0
                    exact ih _ sv (mm + 1) Is2037 Gs2037 JRLx_s2037 JMDJ_s2037 JGTJ_s2037 JMZJ_s2037 (by rw [show mm + 1 = 2 by first | (clear hps2035 g2034 g2033 g2031 g2030 g2029; omega) | (clear g2034 g2033 g2031 g2030 g2029; omega) | omega, gtb_1 (fun w => absurd (hhz.1.mpr w) (by first | (clear hps2035 g2034 g2033 g2031 g2030 g2029; omega) | (clear g2034 g2033 g2031 g2030 g2029; omega) | omega))]; have zz := tsm_call (m := mm) jjGTJ hq (by first | (clear hps2035 g2034 g2033 g2031 g2030 g2029; omega) | (clear g2034 g2033 g2031 g2030 g2029; omega) | omega) (by first | (clear hps2035 g2034 g2033 g2031 g2030 g2029; omega) | (clear g2034 g2033 g2031 g2030 g2029; omega) | omega) hU9 hgg; rw [show mm = 1 by first | (clear hps2035 g2034 g2033 g2031 g2030 g2029; omega) | (clear g2034 g2033 g2031 g2030 g2029; omega) | omega] at zz; exact zz) (by first | exact ⟨And.intro (hi.1.1) (hi.1.2), hi.2.1, And.intro (hi.2.2.1.1) (hi.2.2.1.2), And.intro (hi.2.2.2.1.1) (hi.2.2.2.1.2), And.intro (hi.2.2.2.2.1.1) (hi.2.2.2.2.1.2), And.intro (hi.2.2.2.2.2.1.1) (hi.2.2.2.2.2.1.2), oq_ac0e91e1 ws2037_105 ws2035_105 ws2032_105 hi.2.2.2.2.2.2.1, oq_45b593e3 ws2037_90 hi.2.2.2.2.2.2.2.1 ws2035_90 ws2032_90, And.intro (hi.2.2.2.2.2.2.2.2.1.1) (And.intro (hi.2.2.2.2.2.2.2.2.1.2.1) (hi.2.2.2.2.2.2.2.2.1.2.2)), oq_82935c17 g2006, oq_0a5951b8 g2006⟩ | omega) (by first | exact qk_me hm (by decide) (oq_6b61a495 g2006) | omega) kx
                  ·
                    exfalso
                    omega
                ·
                  exfalso
                  omega
              ·
                exfalso
                omega
            ·
              exfalso
              omega
  refine z_aload_n X (x := A 179) rfl (List.Mem.head _) (z_getI X 179 rfl (c518_ok rfl) rfl rfl ?_)
  have b5 := bi_106 I
  refine z_const X rfl (z_icmp_eq X (t := 18) rfl rfl (rng_to _) (by decide) (fun g6 => ?_) (fun g6 => ?_))
  ·
    have hl : lsB B u := (bso9_l p8.1).mpr (by omega)
    have hg1 := jGTJ.1.1.1
    have hg2 := jGTJ.2.2.1
    have hg3 := jGTJ.2.2.2.1
    have hyq : (y : Int).toNat = qn := by omega
    refine z_load_n X (x := x) rfl (List.Mem.tail _ (List.Mem.head _)) (z_aload_n X (x := A 179) rfl (List.Mem.head _) (z_getI X 179 rfl (c518_ok rfl) rfl rfl ?_))
    have b7 := bi_105 I
    refine z_icmp_ne X (t := 76) rfl rfl ⟨by first | exact oq_fa4e5087 p0.1 | omega, by first | exact oq_39d2cc6e p0.2 b7.2 | omega⟩ (rng_to _) (fun g8 => ?_) (fun g8 => ?_)
    ·
      refine z_aload_n X (x := A 179) rfl (List.Mem.head _) (s_getR X 179 rfl (c518_ok rfl) rfl rfl (z_load_n X (x := x) rfl (List.Mem.tail _ (List.Mem.head _)) (z_ald X 455 rfl (c518_ok rfl) rfl (by first | exact p0.1 | omega) (show x < 8 by first | exact oq_1fa780f7 g8 p2 p0.2 | omega) (cbig_ok rfl) ?_)))
      have b9 := bc_400 I (show (x).toNat < 8 by first | exact oq_54c6e91f g8 p2 p0.2 | omega)
      refine z_store X (lv' := [(6, .int (Int32.ofInt (iC s 400 (x).toNat))), (0, .ref (A 179)), (1, .int (Int32.ofInt x)), (2, .int (Int32.ofInt y)), (3, .int (Int32.ofInt z)), (4, .int (Int32.ofInt w)), (5, .int (Int32.ofInt u))]) rfl (by decide) (fun _ h => h) (z_const X rfl (z_store X (lv' := [(7, .int (Int32.ofInt 1)), (6, .int (Int32.ofInt (iC s 400 (x).toNat))), (0, .ref (A 179)), (1, .int (Int32.ofInt x)), (2, .int (Int32.ofInt y)), (3, .int (Int32.ofInt z)), (4, .int (Int32.ofInt w)), (5, .int (Int32.ofInt u))]) rfl (by decide) (fun _ h => h) (WS_pq [2, 3, 4, 5, 6, 7, 1, 0] (lv' := [(0, .ref (A 179)), (1, .int (Int32.ofInt x)), (2, .int (Int32.ofInt y)), (3, .int (Int32.ofInt z)), (4, .int (Int32.ofInt w)), (5, .int (Int32.ofInt u)), (6, .int (Int32.ofInt (iC s 400 (x).toNat))), (7, .int (Int32.ofInt 1))]) rfl (L87 ((4 - 1 : Int).toNat + 1) s (iC s 400 (x).toNat) 1 I F jRLx jMDJ jGTJ jMZJ ⟨by rw [show gtB (hmoS U S qn) (hrdS U S qn) ft (cHt (hitP U S qn) (uN U)) (mdM s) (x : Int).toNat u z w B 1 = B from if_pos rfl]; exact p8.1, fun _ _ => rfl⟩ (by first | exact ⟨oq_0c00f521 g8 p7.2 p7.1 p0.2, p2, And.intro (p4.1) (p4.2), And.intro (p5.1) (p5.2), And.intro (p6.1) (p6.2), And.intro (p7.1) (p7.2), by decide, by decide, And.intro (by decide) (And.intro (b9.1) (b9.2)), by decide, by decide⟩ | omega) (Nat.lt_succ_self _) ?_))))
      intro s10 x11 Is10 Fs10 JRLx_s10 JMDJ_s10 JGTJ_s10 JMZJ_s10 Qs10 hs10
      have b12 := bi_105 Is10
      have b13 := bi_106 Is10
      have b14 := bi_89 Is10
      have b15 := bi_90 Is10
      refine z_aload_n X (x := A 179) rfl (List.Mem.head _) (s_getR X 179 rfl (c518_ok rfl) rfl rfl (z_load X (x := (iC s 400 (x).toNat)) rfl (List.Mem.tail _ (List.Mem.tail _ (List.Mem.tail _ (List.Mem.tail _ (List.Mem.tail _ (List.Mem.tail _ (List.Mem.head _))))))) (z_const X rfl (z_ast X 456 rfl (c518_ok rfl) rfl (by first | exact hs10.2.2.2.2.2.2.2.2.1.2.1 | omega) (show (iC s 400 (x).toNat) < 12 by first | exact oq_0ddfcfee hs10.2.2.2.2.2.2.2.2.1.2.2 | omega) (cbig_ok rfl) (wd_gen (fun s16 hs16 => ?_))))))
      have Is16 : Bd s16 := eqB hs16 (bd_C Is10 (show (0 : Int) ≤ 0 ∧ 0 ≤ 3 by first | exact ⟨by decide, by decide⟩ | omega) (by decide))
      have Fs16 := eqF hs16 (fm_C Fs10 (inl_ok (a := 401) rfl))
      have ws16_105 : iI s16 105 = iI s10 105 := eqI hs16 rfl
      have ws16_106 : iI s16 106 = iI s10 106 := eqI hs16 rfl
      have ws16_89 : iI s16 89 = iI s10 89 := eqI hs16 rfl
      have ws16_90 : iI s16 90 = iI s10 90 := eqI hs16 rfl
      have fs16 : Fm [] [401] s10 s16 := by rw [hs16]; exact fm_C (fm_rf _ _ _) (show 401 ∈ _ by decide)
      have JRLx_s16 : RLx s16 := RLx_fm fs16 (by decide) JRLx_s10
      have hU0 : s16 = uC s10 401 (iC s10 400 (x : Int).toNat).toNat (Int32.ofInt 0) := by rw [show iC s10 400 (x : Int).toNat = (iC s 400 (x).toNat) by have zz : iC s10 400 (x : Int).toNat = iC s 400 (x : Int).toNat := fm_c Fs10 (by decide); omega]; exact hs16
      have hMZ : MZJ U (hitP U S qn) s16 := mzj_u JGTJ_s10 (by first | (clear g8; omega) | omega) JMZJ_s10 hU0
      have hTS : TSM U (hitP U S qn) (gtB (hmoS U S qn) (hrdS U S qn) ft (cHt (hitP U S qn) (uN U)) (mdM s) (x : Int).toNat u z w B 4) x s s16 := tsm_off JGTJ_s10 (by have zz := Qs10; rw [show x11 = 4 by first | (clear g8; omega) | omega] at zz; exact zz) (by first | (clear g8; omega) | omega) hU0
      exact w_vret X.1 q hRt (ax_d X (show cdA 285 204 = some (.return_, 1, 0, 0, 0) from rfl)) (Nat.zero_le _) (Nat.zero_le _) ⟨_, rfl, Is16, Fs16, JRLx_s16, hMZ, rfl, (by unfold GTQ; rw [gt_e (show (x : Int).toNat < (cHt (hitP U S qn) (uN U)) by first | (clear g8; omega) | omega) hl]; exact hTS)⟩
    ·
      have hHQ := gt_hmq jMDJ jGTJ p8 (by omega)
      have hWK := gt_wok (c := ((cHt (hitP U S qn) (uN U)) : Int)) jMDJ hHQ
      refine z_aload_n X (x := A 179) rfl (List.Mem.head _) (z_load_n X (x := y) rfl (List.Mem.tail _ (List.Mem.tail _ (List.Mem.head _))) (z_callV X 179 (rm := rmN 284) (As := [.int (Int32.ofInt y)]) (st := []) rfl rfl (by decide) rfl (by rw [E.1, E.2.1, E.2.2.1]; exact k_asMended9 G I jRLx jMDJ (by first | exact ⟨p4.1, p4.2⟩ | omega) (hHQ)) ⟨by rw [E.2.2.2]; exact (show 10 + 1 ≤ (12 + (52 + (r + 1))) from oq_04dc1188 r), by rw [E.2.2.2]; exact (show 8 + (5 + 11) + 189 ≤ (500 + 45 * (52 + (r + 1))) from oq_bb8002ac r), by rw [E.2.2.2]; exact Nat.le_refl 0, by rw [E.2.2.2]; exact Nat.le_refl 0⟩ (Nat.le_of_ble_eq_true rfl) (fun vv s17 hq => ?_) (fun ee s17 hq => ?_)))
      rotate_left
      · obtain ⟨Is17, Fs17, JRLx_s17, hv, hps17⟩ := hq; cases hv
      obtain ⟨Is17, Fs17, JRLx_s17, hv, hps17⟩ := hq
      cases hv
      have Gs17 := fm_tq F Fs17 rfl rfl
      have JRLx_s17 : RLx s17 := RLx_fm Fs17 (by decide) jRLx
      have JMDJ_s17 : MDJ U s17 := MDJ_fm Fs17 (by decide) jMDJ
      have JMZJ_s17 : MZJ U (hitP U S qn) s17 := MZJ_fm Fs17 (by decide) jMZJ
      have ws17_105 : iI s17 105 = iI s 105 := fm_iq Fs17 rfl
      have ws17_106 : iI s17 106 = iI s 106 := fm_iq Fs17 rfl
      have ws17_89 : iI s17 89 = iI s 89 := fm_iq Fs17 rfl
      have ws17_90 : iI s17 90 = iI s 90 := fm_iq Fs17 rfl
      show WS k 31 [(0, .ref (A 179)), (1, .int (Int32.ofInt x)), (2, .int (Int32.ofInt y)), (3, .int (Int32.ofInt z)), (4, .int (Int32.ofInt w)), (5, .int (Int32.ofInt u))] [] (Wd A dT s17) 0 0
      have hst1 : iI s17 90 = iI s 90 := fm_iq Fs17 rfl
      have hAE := am_e (by have zz := hps17; rw [hyq, hg1] at zz; exact zz) ⟨hst1.trans jMDJ.1.1, jMDJ.1.2⟩ hWK
      have hML : MDL (uC9 U (wyC U (PcH (hitP U S qn) ((cHt (hitP U S qn) (uN U)) : Int)) (MD9 s) (RW9 s))) s17 := gt_mdl jMDJ hst1 JMDJ_s17.2.2.2.2.2.2 hWK
      refine z_aload_n X (x := A 179) rfl (List.Mem.head _) (z_callV X 179 (rm := rmN 283) (As := []) (st := []) rfl rfl (by decide) rfl (by rw [E.1, E.2.1, E.2.2.1]; exact k_noneFull9 G Is17 hAE.1 hAE.2.1 hML hAE.2.2.1 hAE.2.2.2 (by omega)) ⟨by rw [E.2.2.2]; exact (show 37 + 1 ≤ (12 + (52 + (r + 1))) from oq_35b456ef r), by rw [E.2.2.2]; exact (show 8 + (2 + 11) + 1578 ≤ (500 + 45 * (52 + (r + 1))) from oq_14bb5664 r), by rw [E.2.2.2]; exact Nat.le_refl 0, by rw [E.2.2.2]; exact Nat.le_refl 0⟩ (Nat.le_of_ble_eq_true rfl) (fun vv s19 hq => ?_) (fun ee s19 hq => ?_))
      rotate_left
      · obtain ⟨Is19, Fs19, e20, hv, hrs19, hps19⟩ := hq; cases hv
      obtain ⟨Is19, Fs19, e20, hv, hrs19, hps19⟩ := hq
      cases hv
      have Gs19 := fm_tq Gs17 Fs19 rfl rfl
      have JRLx_s19 : RLx s19 := RLx_fm Fs19 (by decide) JRLx_s17
      have JMZJ_s19 : MZJ U (hitP U S qn) s19 := MZJ_fm Fs19 (by decide) JMZJ_s17
      have ws19_105 : iI s19 105 = iI s17 105 := fm_iq Fs19 rfl
      have ws19_106 : iI s19 106 = iI s17 106 := fm_iq Fs19 rfl
      have ws19_89 : iI s19 89 = iI s17 89 := fm_iq Fs19 rfl
      have ws19_90 : iI s19 90 = iI s17 90 := fm_iq Fs19 rfl
      show WS k 35 [(0, .ref (A 179)), (1, .int (Int32.ofInt x)), (2, .int (Int32.ofInt y)), (3, .int (Int32.ofInt z)), (4, .int (Int32.ofInt w)), (5, .int (Int32.ofInt u))] [.int (Int32.ofInt e20)] (Wd A dT s19) 0 0
      have hLF := lf_eq (f := pfM s) (lim := fun j => iC s 229 j) (by first | (clear hps19; omega) | omega) (gt_md jGTJ) (gt_rw jGTJ p8 (by first | (clear hps19; omega) | omega)) (fun b hb => (hg3.2.2 b hb).1)
      have hFF := hps19
      rw [show pfM s17 = pfM s from funext (fun j => fm_c Gs17 (by decide)), show (fun j => iC s17 229 j) = (fun j => iC s 229 j) from funext (fun j => fm_c Gs17 (by decide))] at hFF
      have hFT : ft (msI (mdM s) 1 (cHt (hitP U S qn) (uN U))) = fitK9 U S qn (pfM s) (fun j => iC s 229 j) (msI (mdM s) 1 (cHt (hitP U S qn) (uN U))) := congrFun jGTJ.2.2.2.2 _
      refine z_if_ne X (t := 39) rfl rfl hrs19 (fun g21 => ?_) (fun g21 => ?_)
      ·
        have hf : ft (msI (mdM s) 1 (cHt (hitP U S qn) (uN U))) := by rw [hFT]; exact hFF.elim (fun zz => hLF.mp zz.2) (fun zz => absurd zz.1 (by first | (clear g21 hps19; omega) | (clear hps19; omega) | omega))
        refine z_aload_n X (x := A 179) rfl (List.Mem.head _) (z_load X (x := u) rfl (List.Mem.tail _ (List.Mem.tail _ (List.Mem.tail _ (List.Mem.tail _ (List.Mem.tail _ (List.Mem.head _)))))) (s_putI X 179 rfl (c518_ok rfl) rfl rfl (by decide) rfl rfl rfl (wd_gen (fun s22 hs22 => ?_))))
        have Is22 : Bd s22 := eqB hs22 (bd_I Is19 (show ((-2147483648) : Int) ≤ u ∧ u ≤ 2147483647 by first | exact ⟨oq_fa4e5087 p7.1, oq_fd118a2d p7.2 g8 b7.2⟩ | omega) ⟨by first | exact oq_fa4e5087 p7.1 | omega, by first | exact oq_fd118a2d p7.2 g8 b7.2 | omega⟩)
        have Fs22 := eqF hs22 (fm_I Gs19 (inl_ok (a := 106) rfl))
        have vs22 : iI s22 106 = u := eqI hs22 (iI_u ⟨by first | exact oq_fa4e5087 p7.1 | omega, by first | exact oq_fd118a2d p7.2 g8 b7.2 | omega⟩)
        have ws22_105 : iI s22 105 = iI s19 105 := eqI hs22 rfl
        have ws22_89 : iI s22 89 = iI s19 89 := eqI hs22 rfl
        have ws22_90 : iI s22 90 = iI s19 90 := eqI hs22 rfl
        have fs22 : Fm [106] [] s19 s22 := by rw [hs22]; exact fm_I (fm_rf _ _ _) (show 106 ∈ _ by decide)
        have JRLx_s22 : RLx s22 := RLx_fm fs22 (by decide) JRLx_s19
        refine z_const X rfl (z_store X (lv' := [(6, .int (Int32.ofInt 0)), (0, .ref (A 179)), (1, .int (Int32.ofInt x)), (2, .int (Int32.ofInt y)), (3, .int (Int32.ofInt z)), (4, .int (Int32.ofInt w)), (5, .int (Int32.ofInt u))]) rfl (by decide) (fun _ h => h) (WS_pq [1, 0] (lv' := [(0, .ref (A 179)), (6, .int (Int32.ofInt 0))]) rfl (L48 ((12 - 0 : Int).toNat + 1) s22 0 Is22 Fs22 JRLx_s22 ⟨fun x _ h => absurd h (by first | (clear g21 hps19; omega) | (clear hps19; omega) | omega), fun i => (show iC s22 401 i = iC s19 401 i by rw [hs22]; rfl).trans ((fm_c Fs19 (by decide)).trans (fm_c Fs17 (by decide)))⟩ (by first | exact ⟨And.intro (by decide) (by decide), vs22⟩ | omega) (Nat.lt_succ_self _) ?_)))
        intro s23 x24 Is23 Fs23 JRLx_s23 Qs23 hs23
        have b25 := bi_105 Is23
        have b26 := bi_106 Is23
        have b27 := bi_89 Is23
        have b28 := bi_90 Is23
        have hMZ : MZJ U (hitP U S qn) s23 := fun b hb p => (Qs23.2 b).trans (jMZJ b hb p)
        exact w_vret X.1 q hRt (ax_d X (show cdA 285 75 = some (.return_, 1, 0, 0, 0) from rfl)) (Nat.zero_le _) (Nat.zero_le _) ⟨_, rfl, Is23, Fs23, JRLx_s23, hMZ, rfl, (gtq_1 jGTJ jMZJ p8 (by first | (clear g21 hps19; omega) | (clear hps19; omega) | omega) hf hl (by first | (clear g21 hps19; omega) | (clear hps19; omega) | omega) (by first | (clear g21 hps19; omega) | (clear hps19; omega) | omega) (fun x hx => Qs23.1 x hx (by first | (clear g21 hps19; omega) | (clear hps19; omega) | omega)) jMDJ.1.2 (fun i => by show iC s23 401 (iC s23 400 i).toNat = _; rw [Qs23.2, show iC s23 400 i = iC s 400 i from fm_c Fs23 (by decide)]))⟩
      ·
        exact w_vret X.1 q hRt (ax_d X (show cdA 285 38 = some (.return_, 1, 0, 0, 0) from rfl)) (Nat.zero_le _) (Nat.zero_le _) ⟨_, rfl, Is19, Gs19, JRLx_s19, JMZJ_s19, rfl, (gtq_0 jGTJ p8 (by first | (clear hps19; omega) | omega) (by rw [hFT]; exact hFF.elim (fun zz => absurd zz.1 (by first | (clear hps19; omega) | omega)) (fun zz w => zz.2 (hLF.mpr w))) (by first | (clear hps19; omega) | omega) (sam_ts (sam_fm Fs17 (by decide)) (sam_fm Fs19 (by decide))) (fun i => (mdm_fm Fs19 (by decide) i).trans (mdm_fm Fs17 (by decide) i)))⟩
  ·
    refine z_load X (x := u) rfl (List.Mem.tail _ (List.Mem.tail _ (List.Mem.tail _ (List.Mem.tail _ (List.Mem.tail _ (List.Mem.head _)))))) (z_aload_n X (x := A 179) rfl (List.Mem.head _) (z_getI X 179 rfl (c518_ok rfl) rfl rfl ?_))
    have b29 := bi_106 I
    refine z_icmp_lt X (t := 18) rfl rfl ⟨by first | exact oq_fa4e5087 p7.1 | omega, by first | exact oq_1b20a017 p7.2 p0.2 b1.2 | omega⟩ (rng_to _) (fun g30 => ?_) (fun g30 => ?_)
    ·
      have hl : lsB B u := (bso9_l p8.1).mpr (by first | (clear g6; omega) | omega)
      have hg1 := jGTJ.1.1.1
      have hg2 := jGTJ.2.2.1
      have hg3 := jGTJ.2.2.2.1
      have hyq : (y : Int).toNat = qn := by first | (clear g6; omega) | omega
      refine z_load_n X (x := x) rfl (List.Mem.tail _ (List.Mem.head _)) (z_aload_n X (x := A 179) rfl (List.Mem.head _) (z_getI X 179 rfl (c518_ok rfl) rfl rfl ?_))
      have b31 := bi_105 I
      refine z_icmp_ne X (t := 76) rfl rfl ⟨by first | exact oq_fa4e5087 p0.1 | omega, by first | exact oq_39d2cc6e p0.2 b31.2 | omega⟩ (rng_to _) (fun g32 => ?_) (fun g32 => ?_)
      ·
        refine z_aload_n X (x := A 179) rfl (List.Mem.head _) (s_getR X 179 rfl (c518_ok rfl) rfl rfl (z_load_n X (x := x) rfl (List.Mem.tail _ (List.Mem.head _)) (z_ald X 455 rfl (c518_ok rfl) rfl (by first | exact p0.1 | omega) (show x < 8 by first | exact oq_1fa780f7 g32 p2 p0.2 | omega) (cbig_ok rfl) ?_)))
        have b33 := bc_400 I (show (x).toNat < 8 by first | exact oq_54c6e91f g32 p2 p0.2 | omega)
        refine z_store X (lv' := [(6, .int (Int32.ofInt (iC s 400 (x).toNat))), (0, .ref (A 179)), (1, .int (Int32.ofInt x)), (2, .int (Int32.ofInt y)), (3, .int (Int32.ofInt z)), (4, .int (Int32.ofInt w)), (5, .int (Int32.ofInt u))]) rfl (by decide) (fun _ h => h) (z_const X rfl (z_store X (lv' := [(7, .int (Int32.ofInt 1)), (6, .int (Int32.ofInt (iC s 400 (x).toNat))), (0, .ref (A 179)), (1, .int (Int32.ofInt x)), (2, .int (Int32.ofInt y)), (3, .int (Int32.ofInt z)), (4, .int (Int32.ofInt w)), (5, .int (Int32.ofInt u))]) rfl (by decide) (fun _ h => h) (WS_pq [2, 3, 4, 5, 6, 7, 1, 0] (lv' := [(0, .ref (A 179)), (1, .int (Int32.ofInt x)), (2, .int (Int32.ofInt y)), (3, .int (Int32.ofInt z)), (4, .int (Int32.ofInt w)), (5, .int (Int32.ofInt u)), (6, .int (Int32.ofInt (iC s 400 (x).toNat))), (7, .int (Int32.ofInt 1))]) rfl (L87 ((4 - 1 : Int).toNat + 1) s (iC s 400 (x).toNat) 1 I F jRLx jMDJ jGTJ jMZJ ⟨by rw [show gtB (hmoS U S qn) (hrdS U S qn) ft (cHt (hitP U S qn) (uN U)) (mdM s) (x : Int).toNat u z w B 1 = B from if_pos rfl]; exact p8.1, fun _ _ => rfl⟩ (by first | exact ⟨oq_0c00f521 g32 p7.2 p7.1 p0.2, p2, And.intro (p4.1) (p4.2), And.intro (p5.1) (p5.2), And.intro (p6.1) (p6.2), And.intro (p7.1) (p7.2), by decide, by decide, And.intro (by decide) (And.intro (b33.1) (b33.2)), by decide, by decide⟩ | omega) (Nat.lt_succ_self _) ?_))))
        intro s34 x35 Is34 Fs34 JRLx_s34 JMDJ_s34 JGTJ_s34 JMZJ_s34 Qs34 hs34
        have b36 := bi_105 Is34
        have b37 := bi_106 Is34
        have b38 := bi_89 Is34
        have b39 := bi_90 Is34
        refine z_aload_n X (x := A 179) rfl (List.Mem.head _) (s_getR X 179 rfl (c518_ok rfl) rfl rfl (z_load X (x := (iC s 400 (x).toNat)) rfl (List.Mem.tail _ (List.Mem.tail _ (List.Mem.tail _ (List.Mem.tail _ (List.Mem.tail _ (List.Mem.tail _ (List.Mem.head _))))))) (z_const X rfl (z_ast X 456 rfl (c518_ok rfl) rfl (by first | exact hs34.2.2.2.2.2.2.2.2.1.2.1 | omega) (show (iC s 400 (x).toNat) < 12 by first | exact oq_0ddfcfee hs34.2.2.2.2.2.2.2.2.1.2.2 | omega) (cbig_ok rfl) (wd_gen (fun s40 hs40 => ?_))))))
        have Is40 : Bd s40 := eqB hs40 (bd_C Is34 (show (0 : Int) ≤ 0 ∧ 0 ≤ 3 by first | exact ⟨by decide, by decide⟩ | omega) (by decide))
        have Fs40 := eqF hs40 (fm_C Fs34 (inl_ok (a := 401) rfl))
        have ws40_105 : iI s40 105 = iI s34 105 := eqI hs40 rfl
        have ws40_106 : iI s40 106 = iI s34 106 := eqI hs40 rfl
        have ws40_89 : iI s40 89 = iI s34 89 := eqI hs40 rfl
        have ws40_90 : iI s40 90 = iI s34 90 := eqI hs40 rfl
        have fs40 : Fm [] [401] s34 s40 := by rw [hs40]; exact fm_C (fm_rf _ _ _) (show 401 ∈ _ by decide)
        have JRLx_s40 : RLx s40 := RLx_fm fs40 (by decide) JRLx_s34
        have hU0 : s40 = uC s34 401 (iC s34 400 (x : Int).toNat).toNat (Int32.ofInt 0) := by rw [show iC s34 400 (x : Int).toNat = (iC s 400 (x).toNat) by have zz : iC s34 400 (x : Int).toNat = iC s 400 (x : Int).toNat := fm_c Fs34 (by decide); omega]; exact hs40
        have hMZ : MZJ U (hitP U S qn) s40 := mzj_u JGTJ_s34 (by first | (clear g32 g6; omega) | (clear g6; omega) | omega) JMZJ_s34 hU0
        have hTS : TSM U (hitP U S qn) (gtB (hmoS U S qn) (hrdS U S qn) ft (cHt (hitP U S qn) (uN U)) (mdM s) (x : Int).toNat u z w B 4) x s s40 := tsm_off JGTJ_s34 (by have zz := Qs34; rw [show x35 = 4 by first | (clear g32 g6; omega) | (clear g6; omega) | omega] at zz; exact zz) (by first | (clear g32 g6; omega) | (clear g6; omega) | omega) hU0
        exact w_vret X.1 q hRt (ax_d X (show cdA 285 204 = some (.return_, 1, 0, 0, 0) from rfl)) (Nat.zero_le _) (Nat.zero_le _) ⟨_, rfl, Is40, Fs40, JRLx_s40, hMZ, rfl, (by unfold GTQ; rw [gt_e (show (x : Int).toNat < (cHt (hitP U S qn) (uN U)) by first | (clear g32 g6; omega) | (clear g6; omega) | omega) hl]; exact hTS)⟩
      ·
        have hHQ := gt_hmq jMDJ jGTJ p8 (by first | (clear g6; omega) | omega)
        have hWK := gt_wok (c := ((cHt (hitP U S qn) (uN U)) : Int)) jMDJ hHQ
        refine z_aload_n X (x := A 179) rfl (List.Mem.head _) (z_load_n X (x := y) rfl (List.Mem.tail _ (List.Mem.tail _ (List.Mem.head _))) (z_callV X 179 (rm := rmN 284) (As := [.int (Int32.ofInt y)]) (st := []) rfl rfl (by decide) rfl (by rw [E.1, E.2.1, E.2.2.1]; exact k_asMended9 G I jRLx jMDJ (by first | exact ⟨p4.1, p4.2⟩ | omega) (hHQ)) ⟨by rw [E.2.2.2]; exact (show 10 + 1 ≤ (12 + (52 + (r + 1))) from oq_04dc1188 r), by rw [E.2.2.2]; exact (show 8 + (5 + 11) + 189 ≤ (500 + 45 * (52 + (r + 1))) from oq_bb8002ac r), by rw [E.2.2.2]; exact Nat.le_refl 0, by rw [E.2.2.2]; exact Nat.le_refl 0⟩ (Nat.le_of_ble_eq_true rfl) (fun vv s41 hq => ?_) (fun ee s41 hq => ?_)))
        rotate_left
        · obtain ⟨Is41, Fs41, JRLx_s41, hv, hps41⟩ := hq; cases hv
        obtain ⟨Is41, Fs41, JRLx_s41, hv, hps41⟩ := hq
        cases hv
        have Gs41 := fm_tq F Fs41 rfl rfl
        have JRLx_s41 : RLx s41 := RLx_fm Fs41 (by decide) jRLx
        have JMDJ_s41 : MDJ U s41 := MDJ_fm Fs41 (by decide) jMDJ
        have JMZJ_s41 : MZJ U (hitP U S qn) s41 := MZJ_fm Fs41 (by decide) jMZJ
        have ws41_105 : iI s41 105 = iI s 105 := fm_iq Fs41 rfl
        have ws41_106 : iI s41 106 = iI s 106 := fm_iq Fs41 rfl
        have ws41_89 : iI s41 89 = iI s 89 := fm_iq Fs41 rfl
        have ws41_90 : iI s41 90 = iI s 90 := fm_iq Fs41 rfl
        show WS k 31 [(0, .ref (A 179)), (1, .int (Int32.ofInt x)), (2, .int (Int32.ofInt y)), (3, .int (Int32.ofInt z)), (4, .int (Int32.ofInt w)), (5, .int (Int32.ofInt u))] [] (Wd A dT s41) 0 0
        have hst1 : iI s41 90 = iI s 90 := fm_iq Fs41 rfl
        have hAE := am_e (by have zz := hps41; rw [hyq, hg1] at zz; exact zz) ⟨hst1.trans jMDJ.1.1, jMDJ.1.2⟩ hWK
        have hML : MDL (uC9 U (wyC U (PcH (hitP U S qn) ((cHt (hitP U S qn) (uN U)) : Int)) (MD9 s) (RW9 s))) s41 := gt_mdl jMDJ hst1 JMDJ_s41.2.2.2.2.2.2 hWK
        refine z_aload_n X (x := A 179) rfl (List.Mem.head _) (z_callV X 179 (rm := rmN 283) (As := []) (st := []) rfl rfl (by decide) rfl (by rw [E.1, E.2.1, E.2.2.1]; exact k_noneFull9 G Is41 hAE.1 hAE.2.1 hML hAE.2.2.1 hAE.2.2.2 (by first | (clear g6; omega) | omega)) ⟨by rw [E.2.2.2]; exact (show 37 + 1 ≤ (12 + (52 + (r + 1))) from oq_35b456ef r), by rw [E.2.2.2]; exact (show 8 + (2 + 11) + 1578 ≤ (500 + 45 * (52 + (r + 1))) from oq_14bb5664 r), by rw [E.2.2.2]; exact Nat.le_refl 0, by rw [E.2.2.2]; exact Nat.le_refl 0⟩ (Nat.le_of_ble_eq_true rfl) (fun vv s43 hq => ?_) (fun ee s43 hq => ?_))
        rotate_left
        · obtain ⟨Is43, Fs43, e44, hv, hrs43, hps43⟩ := hq; cases hv
        obtain ⟨Is43, Fs43, e44, hv, hrs43, hps43⟩ := hq
        cases hv
        have Gs43 := fm_tq Gs41 Fs43 rfl rfl
        have JRLx_s43 : RLx s43 := RLx_fm Fs43 (by decide) JRLx_s41
        have JMZJ_s43 : MZJ U (hitP U S qn) s43 := MZJ_fm Fs43 (by decide) JMZJ_s41
        have ws43_105 : iI s43 105 = iI s41 105 := fm_iq Fs43 rfl
        have ws43_106 : iI s43 106 = iI s41 106 := fm_iq Fs43 rfl
        have ws43_89 : iI s43 89 = iI s41 89 := fm_iq Fs43 rfl
        have ws43_90 : iI s43 90 = iI s41 90 := fm_iq Fs43 rfl
        show WS k 35 [(0, .ref (A 179)), (1, .int (Int32.ofInt x)), (2, .int (Int32.ofInt y)), (3, .int (Int32.ofInt z)), (4, .int (Int32.ofInt w)), (5, .int (Int32.ofInt u))] [.int (Int32.ofInt e44)] (Wd A dT s43) 0 0
        have hLF := lf_eq (f := pfM s) (lim := fun j => iC s 229 j) (by first | (clear hps43 g6; omega) | (clear g6; omega) | omega) (gt_md jGTJ) (gt_rw jGTJ p8 (by first | (clear hps43 g6; omega) | (clear g6; omega) | omega)) (fun b hb => (hg3.2.2 b hb).1)
        have hFF := hps43
        rw [show pfM s41 = pfM s from funext (fun j => fm_c Gs41 (by decide)), show (fun j => iC s41 229 j) = (fun j => iC s 229 j) from funext (fun j => fm_c Gs41 (by decide))] at hFF
        have hFT : ft (msI (mdM s) 1 (cHt (hitP U S qn) (uN U))) = fitK9 U S qn (pfM s) (fun j => iC s 229 j) (msI (mdM s) 1 (cHt (hitP U S qn) (uN U))) := congrFun jGTJ.2.2.2.2 _
        refine z_if_ne X (t := 39) rfl rfl hrs43 (fun g45 => ?_) (fun g45 => ?_)
        ·
          have hf : ft (msI (mdM s) 1 (cHt (hitP U S qn) (uN U))) := by rw [hFT]; exact hFF.elim (fun zz => hLF.mp zz.2) (fun zz => absurd zz.1 (by first | (clear g45 hps43 g6; omega) | (clear hps43 g6; omega) | omega))
          refine z_aload_n X (x := A 179) rfl (List.Mem.head _) (z_load X (x := u) rfl (List.Mem.tail _ (List.Mem.tail _ (List.Mem.tail _ (List.Mem.tail _ (List.Mem.tail _ (List.Mem.head _)))))) (s_putI X 179 rfl (c518_ok rfl) rfl rfl (by decide) rfl rfl rfl (wd_gen (fun s46 hs46 => ?_))))
          have Is46 : Bd s46 := eqB hs46 (bd_I Is43 (show ((-2147483648) : Int) ≤ u ∧ u ≤ 2147483647 by first | exact ⟨oq_fa4e5087 p7.1, oq_ef392b12 g30 b29.2⟩ | omega) ⟨by first | exact oq_fa4e5087 p7.1 | omega, by first | exact oq_ef392b12 g30 b29.2 | omega⟩)
          have Fs46 := eqF hs46 (fm_I Gs43 (inl_ok (a := 106) rfl))
          have vs46 : iI s46 106 = u := eqI hs46 (iI_u ⟨by first | exact oq_fa4e5087 p7.1 | omega, by first | exact oq_ef392b12 g30 b29.2 | omega⟩)
          have ws46_105 : iI s46 105 = iI s43 105 := eqI hs46 rfl
          have ws46_89 : iI s46 89 = iI s43 89 := eqI hs46 rfl
          have ws46_90 : iI s46 90 = iI s43 90 := eqI hs46 rfl
          have fs46 : Fm [106] [] s43 s46 := by rw [hs46]; exact fm_I (fm_rf _ _ _) (show 106 ∈ _ by decide)
          have JRLx_s46 : RLx s46 := RLx_fm fs46 (by decide) JRLx_s43
          refine z_const X rfl (z_store X (lv' := [(6, .int (Int32.ofInt 0)), (0, .ref (A 179)), (1, .int (Int32.ofInt x)), (2, .int (Int32.ofInt y)), (3, .int (Int32.ofInt z)), (4, .int (Int32.ofInt w)), (5, .int (Int32.ofInt u))]) rfl (by decide) (fun _ h => h) (WS_pq [1, 0] (lv' := [(0, .ref (A 179)), (6, .int (Int32.ofInt 0))]) rfl (L48 ((12 - 0 : Int).toNat + 1) s46 0 Is46 Fs46 JRLx_s46 ⟨fun x _ h => absurd h (by first | (clear g45 hps43 g6; omega) | (clear hps43 g6; omega) | omega), fun i => (show iC s46 401 i = iC s43 401 i by rw [hs46]; rfl).trans ((fm_c Fs43 (by decide)).trans (fm_c Fs41 (by decide)))⟩ (by first | exact ⟨And.intro (by decide) (by decide), vs46⟩ | omega) (Nat.lt_succ_self _) ?_)))
          intro s47 x48 Is47 Fs47 JRLx_s47 Qs47 hs47
          have b49 := bi_105 Is47
          have b50 := bi_106 Is47
          have b51 := bi_89 Is47
          have b52 := bi_90 Is47
          have hMZ : MZJ U (hitP U S qn) s47 := fun b hb p => (Qs47.2 b).trans (jMZJ b hb p)
          exact w_vret X.1 q hRt (ax_d X (show cdA 285 75 = some (.return_, 1, 0, 0, 0) from rfl)) (Nat.zero_le _) (Nat.zero_le _) ⟨_, rfl, Is47, Fs47, JRLx_s47, hMZ, rfl, (gtq_1 jGTJ jMZJ p8 (by first | (clear g45 hps43 g6; omega) | (clear hps43 g6; omega) | omega) hf hl (by first | (clear g45 hps43 g6; omega) | (clear hps43 g6; omega) | omega) (by first | (clear g45 hps43 g6; omega) | (clear hps43 g6; omega) | omega) (fun x hx => Qs47.1 x hx (by first | (clear g45 hps43 g6; omega) | (clear hps43 g6; omega) | omega)) jMDJ.1.2 (fun i => by show iC s47 401 (iC s47 400 i).toNat = _; rw [Qs47.2, show iC s47 400 i = iC s 400 i from fm_c Fs47 (by decide)]))⟩
        ·
          exact w_vret X.1 q hRt (ax_d X (show cdA 285 38 = some (.return_, 1, 0, 0, 0) from rfl)) (Nat.zero_le _) (Nat.zero_le _) ⟨_, rfl, Is43, Gs43, JRLx_s43, JMZJ_s43, rfl, (gtq_0 jGTJ p8 (by first | (clear hps43 g6; omega) | (clear g6; omega) | omega) (by rw [hFT]; exact hFF.elim (fun zz => absurd zz.1 (by first | (clear hps43 g6; omega) | (clear g6; omega) | omega)) (fun zz w => zz.2 (hLF.mpr w))) (by first | (clear hps43 g6; omega) | (clear g6; omega) | omega) (sam_ts (sam_fm Fs41 (by decide)) (sam_fm Fs43 (by decide))) (fun i => (mdm_fm Fs43 (by decide) i).trans (mdm_fm Fs41 (by decide) i)))⟩
    ·
      exact w_vret X.1 q hRt (ax_d X (show cdA 285 17 = some (.return_, 1, 0, 0, 0) from rfl)) (Nat.zero_le _) (Nat.zero_le _) ⟨_, rfl, I, F, jRLx, jMZJ, rfl, (gtq_no p8 (by first | (clear g6; omega) | omega))⟩
theorem k_gor9 (G : GX l s0 D tys a0 dT) {U : AirD} {S : Int → Prop} {qn : Nat} {ft : Int → Prop} (r : Nat) : ∀ {s : PS} {x y z w u : Int} {B : MdO}, Bd s → RLx s → MDJ U s → GTJ U S qn ft s → MZJ U (hitP U S qn) s → (0 ≤ x ∧ x ≤ iI s 105) → (iI s 105 - x ≤ ((r : Nat) : Int)) → (iI s 105 ≤ 8) → (y = (qn : Int)) → (0 ≤ y ∧ y ≤ 23) → (0 ≤ z ∧ z ≤ 8) → (0 ≤ w ∧ w ≤ 8) → (0 ≤ u ∧ u ≤ 3000 * x) → (GTP U (hitP U S qn) B x s) → CT l s0 D A dT 285 (rkR (52 + (r))) [.ref (A 179), .int (Int32.ofInt x), .int (Int32.ofInt y), .int (Int32.ofInt z), .int (Int32.ofInt w), .int (Int32.ofInt u)] s (fun o t => Bd t ∧ Fm [77, 75, 78, 79, 80, 81, 106] [202, 204, 205, 206, 207, 208, 209, 210, 211, 212, 213, 214, 215, 216, 217, 218, 219, 220, 221, 222, 223, 224, 225, 226, 227, 203, 161, 230, 401, 402] s t ∧ RLx t ∧ MZJ U (hitP U S qn) t ∧ o = .inl none ∧ (GTQ U S qn ft B x u z w s t)) := by
  induction r with
  | zero => exact fun {_ _ _ _ _ _ _} I a b c d p0 p1 p2 p3 p4 p5 p6 p7 p8 => k_go90 G I a b c d p0 p1 p2 p3 p4 p5 p6 p7 p8
  | succ r ih => exact fun {_ _ _ _ _ _ _} I a b c d p0 p1 p2 p3 p4 p5 p6 p7 p8 => k_go9S G ih I a b c d p0 p1 p2 p3 p4 p5 p6 p7 p8
end M87lc
