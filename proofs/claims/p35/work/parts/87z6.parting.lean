/-! Cells put: one, a box of them, all of a mark -/
def bxC (a b c : Int) : Prop := a ≤ c ∧ c ≤ b ∧ a % 8 ≤ c % 8 ∧ c % 8 ≤ b % 8
/-- of the cells below n those of B are put to p: what was f is g, m of them changed -/
def PNQ (B : Int → Prop) (f g : Nat → Int) (p n m : Int) : Prop := (∀ j : Nat, (B (j : Int) ∧ (j : Int) < n → g j = p) ∧ (¬ (B (j : Int) ∧ (j : Int) < n) → g j = f j)) ∧ m = sm (fun j => i01 (B (j : Int) ∧ f j ≠ p)) n.toNat
theorem pnq_0 {B : Int → Prop} {f : Nat → Int} {p n : Int} (n0 : 0 ≤ n) (h : ∀ c : Int, 0 ≤ c → c < n → ¬ B c) : PNQ B f f p n 0 := ⟨fun j => ⟨fun q => absurd q.1 (h _ (by omega) q.2), fun _ => rfl⟩, (sm_0 (fun j hj => i01_f (fun q => h _ (by omega) (by omega) q.1))).symm⟩
theorem pnq_g {B : Int → Prop} {f g : Nat → Int} {p n m : Int} (h : PNQ B f g p n m) (n0 : 0 ≤ n) : g n.toNat = f n.toNat := (h.1 n.toNat).2 (fun q => by have := q.2; omega)
theorem pnq_n {B : Int → Prop} {f g : Nat → Int} {p n m : Int} (h : PNQ B f g p n m) (n0 : 0 ≤ n) (hn : ¬ B n) : PNQ B f g p (n + 1) m := by
  refine ⟨fun j => ⟨fun q => (h.1 j).1 ⟨q.1, ?_⟩, fun q => (h.1 j).2 (fun z => q ⟨z.1, by have := z.2; omega⟩)⟩, ?_⟩
  · have e : (j : Int) ≠ n := fun e => hn (by rw [← e]; exact q.1)
    have := q.2
    omega
  · have en : ((n.toNat : Nat) : Int) = n := by omega
    rw [show (n + 1).toNat = n.toNat + 1 by omega]
    show m = sm (fun j => i01 (B (j : Int) ∧ f j ≠ p)) n.toNat + i01 (B ((n.toNat : Nat) : Int) ∧ f n.toNat ≠ p)
    rw [en, i01_f (fun q => hn q.1), Int.add_zero]
    exact h.2
theorem pnq_y {B : Int → Prop} {f g g' : Nat → Int} {p n m m' : Int} (h : PNQ B f g p n m) (n0 : 0 ≤ n) (hB : B n) (hg : g' = upF g n.toNat p) (hm : m' = m + i01 (f n.toNat ≠ p)) : PNQ B f g' p (n + 1) m' := by
  have en : ((n.toNat : Nat) : Int) = n := by omega
  subst hg
  refine ⟨fun j => ?_, ?_⟩
  · by_cases e : j = n.toNat
    · refine ⟨fun _ => by unfold upF; rw [if_pos e], fun q => absurd (show B (j : Int) ∧ (j : Int) < n + 1 from ⟨by rw [e, en]; exact hB, by omega⟩) q⟩
    · have u : upF g n.toNat p j = g j := by unfold upF; rw [if_neg e]
      rw [u]
      exact ⟨fun q => (h.1 j).1 ⟨q.1, by have := q.2; omega⟩, fun q => (h.1 j).2 (fun z => q ⟨z.1, by have := z.2; omega⟩)⟩
  · rw [show (n + 1).toNat = n.toNat + 1 by omega]
    show m' = sm (fun j => i01 (B (j : Int) ∧ f j ≠ p)) n.toNat + i01 (B ((n.toNat : Nat) : Int) ∧ f n.toNat ≠ p)
    rw [en, i01_c (show B n ∧ f n.toNat ≠ p ↔ f n.toNat ≠ p from ⟨fun q => q.2, fun q => ⟨hB, q⟩⟩), ← h.2]
    exact hm
theorem pnq_k {B : Int → Prop} {f g : Nat → Int} {p n m : Int} (h : PNQ B f g p n m) (n0 : 0 ≤ n) (hz : ∀ c : Int, n ≤ c → ¬ B c) : ∀ k : Nat, PNQ B f g p (n + (k : Int)) m
  | 0 => by rw [show n + ((0 : Nat) : Int) = n by omega]; exact h
  | k + 1 => by
    have z := pnq_n (pnq_k h n0 hz k) (by omega) (hz _ (by omega))
    rw [show n + ((k + 1 : Nat) : Int) = n + (k : Int) + 1 by omega]; exact z
theorem pnq_z {B : Int → Prop} {f g : Nat → Int} {p n m : Int} (h : PNQ B f g p n m) (n0 : 0 ≤ n) (n1 : n ≤ 128) (hz : ∀ c : Int, n ≤ c → ¬ B c) : PNQ B f g p 128 m := by
  have z := pnq_k h n0 hz (128 - n).toNat
  rw [show n + (((128 - n).toNat : Nat) : Int) = 128 by omega] at z
  exact z
theorem pnq_eq {B : Int → Prop} {f g f' g' : Nat → Int} {p m m' : Int} (h : PNQ B f g p 128 m) (h' : PNQ B f' g' p 128 m') (hf : ∀ j, j < 128 → f j = f' j) : m = m' ∧ ∀ j, j < 128 → g j = g' j := by
  refine ⟨?_, fun j hj => ?_⟩
  · rw [h.2, h'.2]
    exact sm_eq (fun j hj => i01_c (by rw [hf j (by omega)]))
  · by_cases e : B (j : Int)
    · rw [(h.1 j).1 ⟨e, by omega⟩, (h'.1 j).1 ⟨e, by omega⟩]
    · rw [(h.1 j).2 (fun q => e q.1), (h'.1 j).2 (fun q => e q.1)]
      exact hf j hj
theorem pnq_s {B : Int → Prop} {f g f' g' : Nat → Int} {p n m : Int} (h : PNQ B f g p n m) (e1 : f = f') (e2 : g = g') : PNQ B f' g' p n m := by subst e1 e2; exact h
theorem shr3 : ∀ n : Fin 128, (Int32.ofInt ((n.val : Nat) : Int) >>> Int32.ofInt 3).toInt = ((n.val / 8 : Nat) : Int) := by decide +kernel
theorem shr_3 {x y : Int} (hx : 0 ≤ x ∧ x ≤ 127) (hy : rng y) (h : Int32.ofInt y = Int32.ofInt x >>> Int32.ofInt 3) : y = x / 8 := by
  have q := congrArg Int32.toInt h
  rw [zi hy] at q
  have z := shr3 ⟨x.toNat, by omega⟩
  dsimp only at z
  rw [show ((x.toNat : Nat) : Int) = x by omega] at z
  rw [q, z]
  omega
/-- a mark of the class's, one of the model's, the same -/
def MKJ (s : PS) : Prop := (0 ≤ iI s 20 ∧ iI s 20 ≤ 4) ∧ ∀ k j : Nat, (k : Int) < iI s 20 → j < 128 → iC s 25 (128 * k + j) = iC s (241 + k) j
theorem MKJ_fm {L M : List Nat} {s t : PS} (F : Fm L M s t) (h : 20 ∉ L ∧ 25 ∉ M ∧ ∀ i, i < 4 → 241 + i ∉ M) (r : MKJ s) : MKJ t := ⟨by rw [fm_i F h.1]; exact r.1, fun k j hk hj => by
  rw [fm_i F h.1] at hk
  have c := r.1
  rw [fm_c F h.2.1, fm_c F (h.2.2 k (by omega))]
  exact r.2 k j hk hj⟩
/-- what mark writes: class, model -/
def MKW (s t : PS) : Prop := ∀ j : Nat, j < 512 → iC t 25 j = if (iI s 20 * 128).toNat ≤ j ∧ j < (iI s 20 * 128).toNat + 128 then iC s 21 (j - (iI s 20 * 128).toNat) else iC s 25 j
/-- cells of a mark taken back, below n -/
def BKQ (f g h : Nat → Int) (n : Int) : Prop := ∀ j : Nat, ((j : Int) < n → g j = h j) ∧ (n ≤ (j : Int) → g j = f j)
theorem bkq_0 {f h : Nat → Int} : BKQ f f h 0 := fun j => ⟨fun q => absurd q (by omega), fun _ => rfl⟩
theorem bkq_up {f g g' h : Nat → Int} {n v : Int} (k : BKQ f g h n) (n0 : 0 ≤ n) (hv : v = h n.toNat) (hg : g' = upF g n.toNat v) : BKQ f g' h (n + 1) := by
  subst hg
  intro j
  unfold upF
  by_cases e : j = n.toNat
  · rw [if_pos e]
    exact ⟨fun _ => by rw [hv, e], fun q => absurd q (by omega)⟩
  · rw [if_neg e]
    exact ⟨fun q => (k j).1 (by omega), fun q => (k j).2 (by omega)⟩
theorem bkq_s {f g f' g' h : Nat → Int} {n : Int} (k : BKQ f g h n) (e1 : f = f') (e2 : g = g') : BKQ f' g' h n := by subst e1 e2; exact k
/-- rows of marks of the model's: the cells below n of the row m are those of the pieces -/
def MKP (m n : Int) (s t : PS) : Prop := ∀ k j : Nat, k < 4 → ((k = m.toNat ∧ (j : Int) < n) → iC t (241 + k) j = iC s 228 j) ∧ (¬ (k = m.toNat ∧ (j : Int) < n) → iC t (241 + k) j = iC s (241 + k) j)
theorem mkp_0 {m : Int} {s t : PS} (h : ∀ k j : Nat, k < 4 → iC t (241 + k) j = iC s (241 + k) j) : MKP m 0 s t := fun k j hk => ⟨fun q => absurd q.2 (by omega), fun _ => h k j hk⟩
theorem mkp_up {m n v : Int} {s t u : PS} (h : MKP m n s t) (n0 : 0 ≤ n) (m0 : 0 ≤ m ∧ m ≤ 3) (hu : u = uC t (241 + m.toNat) n.toNat (Int32.ofInt v)) (rv : rng v) (hv : v = iC s 228 n.toNat) : MKP m (n + 1) s u := by
  subst hu
  intro k j hk
  by_cases e : k = m.toNat
  · subst e
    by_cases z : j = n.toNat
    · subst z
      exact ⟨fun _ => by rw [iC_u rv, hv], fun q => absurd (show m.toNat = m.toNat ∧ ((n.toNat : Nat) : Int) < n + 1 from ⟨rfl, by omega⟩) q⟩
    · rw [iC_n z]
      exact ⟨fun q => (h _ j hk).1 ⟨rfl, by omega⟩, fun q => (h _ j hk).2 (fun w => q ⟨rfl, by have := w.2; omega⟩)⟩
  · rw [iC_a (by omega)]
    exact ⟨fun q => absurd q.1 e, fun q => (h k j hk).2 (fun w => e w.1)⟩
theorem mkp_I {m n : Int} {s t u : PS} (h : MKP m n s t) (hu : ∀ k j : Nat, k < 4 → iC u (241 + k) j = iC t (241 + k) j) : MKP m n s u := fun k j hk => by
  rw [hu k j hk]; exact h k j hk
/-- a mark is kept, in class and model -/
theorem mkj_up {s t u : PS} (r : MKJ s) (a : AEQ 21 228 128 s) (hw : MKW s t) (hp : MKP (iI s 20) 128 s u) (hv : ∀ j : Nat, iC u 25 j = iC t 25 j) (hc : iI u 20 = iI s 20 + 1) (c0 : 0 ≤ iI s 20 ∧ iI s 20 ≤ 3) : MKJ u := ⟨by omega, fun k j hk hj => by
  rw [hv, hw _ (by omega)]
  by_cases e : k = (iI s 20).toNat
  · rw [if_pos (by omega), (hp k j (by omega)).1 ⟨e, by omega⟩, show 128 * k + j - (iI s 20 * 128).toNat = j by omega]
    exact a j hj
  · rw [if_neg (by omega), (hp k j (by omega)).2 (fun q => e q.1)]
    exact r.2 k j (by omega) hj⟩
/-- a mark is taken back -/
theorem bkq_eq {f f' g g' h h' : Nat → Int} (a : BKQ f g h 128) (b : BKQ f' g' h' 128) (e : ∀ j, j < 128 → h j = h' j) : ∀ j, j < 128 → g j = g' j := fun j hj => by
  rw [(a j).1 (by omega), (b j).1 (by omega)]; exact e j hj
section M87k6
variable {l : Launch} {s0 : State} {D : va_G} {tys : List (ClassId × FieldType)} {a0 : Array Value} {A : Nat → Nat} {dT : Nat → ClassId} {s : PS}
set_option maxRecDepth 4000 in
theorem cs_needCell6 (G : GX l s0 D tys a0 dT) (I : Bd s) {v : Int} (p0 : rng v) : CT l s0 D A dT 181 (rmN 181) [.ref (A 0), .int (Int32.ofInt v)] s (fun o t => Bd t ∧ Fm [] [] s t ∧ ((o = .inl none ∧ (0 ≤ v ∧ v ≤ 127)) ∨ ∃ x : Nat, o = .inr (exN x) ∧ (x = 2 ∧ (v < 0 ∨ 127 < v)))) := by
  refine ct_ofX G (by decide) (Nat.le_of_ble_eq_true rfl) (fun k X E ET hRt hXt q => ?_)
  show WS k 0 [(0, .ref (A 0)), (1, .int (Int32.ofInt v))] [] _ 0 0
  have F : Fm [] [] s s := fm_rf _ _ s
  refine z_load_n X (x := v) (show cdA 181 0 = some (.iload_n 1, 1, 0, 0, 0) from rfl) (List.Mem.tail _ (List.Mem.head _)) ?_
  refine z_if_lt X (t := 11) (show cdA 181 1 = some (.ifCond .lt 10, 3, 2, 0, 0) from rfl) (by decide) ⟨by first | exact p0.1 | omega, by first | exact p0.2 | omega⟩ (fun g1 => ?_) (fun g1 => ?_)
  ·
    exact z_throw G X E ET hXt q (st := []) (show cdA 181 11 = some (.new 309, 3, 2, 2, 0) from rfl) (by decide) (by decide) (Nat.le_of_ble_eq_true rfl) (show 0 + 1 ≤ 1 by omega) (show 0 + 6 ≤ 6 by omega) (show 0 + 1 ≤ 1 by omega) (show 0 + 6 ≤ 6 by omega) ⟨_, rfl, I, F, Or.inr ⟨2, rfl, by omega⟩⟩
  ·
    refine z_load_n X (x := v) (show cdA 181 4 = some (.iload_n 1, 1, 0, 0, 0) from rfl) (List.Mem.tail _ (List.Mem.head _)) ?_
    refine z_sipush X (show cdA 181 5 = some (.sipush 128, 3, 0, 0, 128) from rfl) ?_
    refine z_icmp_lt X (t := 22) (show cdA 181 8 = some (.if_icmp .lt 14, 3, 2, 0, 0) from rfl) (by decide) ⟨by first | exact p0.1 | omega, by first | exact p0.2 | omega⟩ (by decide) (fun g2 => ?_) (fun g2 => ?_)
    ·
      exact w_vret X.1 q hRt (ax_d X (show cdA 181 22 = some (.return_, 1, 0, 0, 0) from rfl)) (Nat.zero_le _) (Nat.zero_le _) ⟨_, rfl, I, F, Or.inl ⟨rfl, by first | exact ⟨g1, oq_04367f15 g2⟩ | omega⟩⟩
    ·
      exact z_throw G X E ET hXt q (st := []) (show cdA 181 11 = some (.new 309, 3, 2, 2, 0) from rfl) (by decide) (by decide) (Nat.le_of_ble_eq_true rfl) (show 0 + 1 ≤ 1 by omega) (show 0 + 6 ≤ 6 by omega) (show 0 + 1 ≤ 1 by omega) (show 0 + 6 ≤ 6 by omega) ⟨_, rfl, I, F, Or.inr ⟨2, rfl, by omega⟩⟩
set_option maxRecDepth 4000 in
theorem cs_assign6 (G : GX l s0 D tys a0 dT) (I : Bd s) (jPMJ : PMJ s) {u v : Int} (p0 : rng u) (p1 : rng v) : CT l s0 D A dT 143 (rmN 143) [.ref (A 0), .int (Int32.ofInt u), .int (Int32.ofInt v)] s (fun o t => Bd t ∧ Fm [] [21, 1022, 1023] s t ∧ PMJ t ∧ ((∃ e, o = .inl (some (.int (Int32.ofInt e))) ∧ rng e ∧ (0 ≤ u ∧ u ≤ 127 ∧ -1 ≤ v ∧ v ≤ 7 ∧ e = iC s 21 u.toNat ∧ UPD 21 u v s t)) ∨ ∃ x : Nat, o = .inr (exN x) ∧ (((x = 2 ∧ (u < 0 ∨ 127 < u)) ∨ (x = 0 ∧ 0 ≤ u ∧ u ≤ 127 ∧ (v < -1 ∨ 7 < v))) ∧ SAM 21 s t))) := by
  refine ct_ofX G (by decide) (Nat.le_of_ble_eq_true rfl) (fun k X E ET hRt hXt q => ?_)
  show WS k 0 [(0, .ref (A 0)), (1, .int (Int32.ofInt u)), (2, .int (Int32.ofInt v))] [] _ 0 0
  have F : Fm [] [21, 1022, 1023] s s := fm_rf _ _ s
  have aw0_21 : SAM 21 s s := sam_rf
  refine z_aload_n X (x := A 0) (show cdA 143 0 = some (.aload_n 0, 1, 0, 0, 0) from rfl) (List.Mem.head _) ?_
  refine z_load_n X (x := u) (show cdA 143 1 = some (.iload_n 1, 1, 0, 0, 0) from rfl) (List.Mem.tail _ (List.Mem.head _)) ?_
  refine z_callV X 0 (rm := rmN 181) (As := [.int (Int32.ofInt u)]) (st := []) (show cdA 143 2 = some (.invokevirtual 168, 3, 181, 0, 0) from rfl) rfl (by decide) rfl (by rw [E.1, E.2.1, E.2.2.1]; exact cs_needCell6 G I (by first | exact ⟨p0.1, p0.2⟩ | omega)) ⟨by rw [E.2.2.2]; exact (show (rmN 181).frames + 1 ≤ (rmN 143).frames by decide), by rw [E.2.2.2]; exact (show 8 + (mNL (miB 181) + 11) + (rmN 181).locals ≤ (rmN 143).locals by decide), by rw [E.2.2.2]; exact (show 0 + 1 ≤ 2 by omega), by rw [E.2.2.2]; exact (show 0 + 6 ≤ 12 by omega)⟩ (Nat.le_of_ble_eq_true rfl) (fun vv s1 hq => ?_) (fun ee s1 hq => ?_)
  rotate_left
  · obtain ⟨Is1, Fs1, (⟨hv, hps1⟩ | ⟨xx, hv, hps1⟩)⟩ := hq
    · cases hv
    · cases hv
      have Gs1 := fm_ts F Fs1 (by decide) (by decide)
      have JPMJ_s1 : PMJ s1 := PMJ_fm Fs1 (by decide) jPMJ
      have aws1_21 : SAM 21 s s1 := sam_ts aw0_21 (sam_fm Fs1 (by decide))
      exact x_out X.1 q (fun x hx => (hXt x hx).elim) (show 1 ≤ 2 by omega) (show 6 ≤ 12 by omega) ⟨_, rfl, Is1, Gs1, JPMJ_s1, Or.inr ⟨xx, rfl, ⟨by omega, aws1_21⟩⟩⟩
  obtain ⟨Is1, Fs1, (⟨hv, hps1⟩ | ⟨xx, hv, hps1⟩)⟩ := hq
  rotate_left
  · cases hv
  cases hv
  have Gs1 := fm_ts F Fs1 (by decide) (by decide)
  have JPMJ_s1 : PMJ s1 := PMJ_fm Fs1 (by decide) jPMJ
  have aws1_21 : SAM 21 s s1 := sam_ts aw0_21 (sam_fm Fs1 (by decide))
  show WS k 5 [(0, .ref (A 0)), (1, .int (Int32.ofInt u)), (2, .int (Int32.ofInt v))] [] (Wd A dT s1) 1 6
  refine z_aload_n X (x := A 0) (show cdA 143 5 = some (.aload_n 0, 1, 0, 0, 0) from rfl) (List.Mem.head _) ?_
  refine z_load_n X (x := v) (show cdA 143 6 = some (.iload_n 2, 1, 0, 0, 0) from rfl) (List.Mem.tail _ (List.Mem.tail _ (List.Mem.head _))) ?_
  refine z_const X (show cdA 143 7 = some (.iconst (-1), 1, 0, 0, 0) from rfl) ?_
  refine z_bipush X (show cdA 143 8 = some (.bipush 7, 2, 0, 0, 7) from rfl) ?_
  refine z_callV X 0 (rm := rmN 184) (As := [.int (Int32.ofInt v), .int (Int32.ofInt (-1)), .int (Int32.ofInt 7)]) (st := []) (show cdA 143 10 = some (.invokevirtual 151, 3, 184, 0, 0) from rfl) rfl (by decide) rfl (by rw [E.1, E.2.1, E.2.2.1]; exact cs_needWithin2 G Is1 (by first | exact ⟨p1.1, p1.2⟩ | omega) (by first | exact ⟨by decide, by decide⟩ | omega) (by first | exact ⟨by decide, by decide⟩ | omega)) ⟨by rw [E.2.2.2]; exact (show (rmN 184).frames + 1 ≤ (rmN 143).frames by decide), by rw [E.2.2.2]; exact (show 8 + (mNL (miB 184) + 11) + (rmN 184).locals ≤ (rmN 143).locals by decide), by rw [E.2.2.2]; exact (show 1 + 1 ≤ 2 by omega), by rw [E.2.2.2]; exact (show 6 + 6 ≤ 12 by omega)⟩ (Nat.le_of_ble_eq_true rfl) (fun vv s3 hq => ?_) (fun ee s3 hq => ?_)
  rotate_left
  · obtain ⟨Is3, Fs3, (⟨hv, hps3⟩ | ⟨xx, hv, hps3⟩)⟩ := hq
    · cases hv
    · cases hv
      have Gs3 := fm_ts Gs1 Fs3 (by decide) (by decide)
      have JPMJ_s3 : PMJ s3 := PMJ_fm Fs3 (by decide) JPMJ_s1
      have aws3_21 : SAM 21 s s3 := sam_ts aws1_21 (sam_fm Fs3 (by decide))
      exact x_out X.1 q (fun x hx => (hXt x hx).elim) (show (1 + 1) ≤ 2 by omega) (show (6 + 6) ≤ 12 by omega) ⟨_, rfl, Is3, Gs3, JPMJ_s3, Or.inr ⟨xx, rfl, ⟨by omega, aws3_21⟩⟩⟩
  obtain ⟨Is3, Fs3, (⟨hv, hps3⟩ | ⟨xx, hv, hps3⟩)⟩ := hq
  rotate_left
  · cases hv
  cases hv
  have Gs3 := fm_ts Gs1 Fs3 (by decide) (by decide)
  have JPMJ_s3 : PMJ s3 := PMJ_fm Fs3 (by decide) JPMJ_s1
  have aws3_21 : SAM 21 s s3 := sam_ts aws1_21 (sam_fm Fs3 (by decide))
  show WS k 13 [(0, .ref (A 0)), (1, .int (Int32.ofInt u)), (2, .int (Int32.ofInt v))] [] (Wd A dT s3) (1 + 1) (6 + 6)
  refine z_aload_n X (x := A 0) (show cdA 143 13 = some (.aload_n 0, 1, 0, 0, 0) from rfl) (List.Mem.head _) ?_
  refine s_getR X 0 (show cdA 143 14 = some (.getfield 35, 3, 11, 3, 0) from rfl) (by decide) rfl rfl ?_
  refine z_load_n X (x := u) (show cdA 143 17 = some (.iload_n 1, 1, 0, 0, 0) from rfl) (List.Mem.tail _ (List.Mem.head _)) ?_
  refine z_load_n X (x := v) (show cdA 143 18 = some (.iload_n 2, 1, 0, 0, 0) from rfl) (List.Mem.tail _ (List.Mem.tail _ (List.Mem.head _))) ?_
  refine z_callV X 25 (rm := rmN 28) (As := [.int (Int32.ofInt u), .int (Int32.ofInt v)]) (st := []) (show cdA 143 19 = some (.invokevirtual 171, 3, 28, 0, 0) from rfl) rfl (by decide) rfl (by rw [E.1, E.2.1, E.2.2.1]; exact c3_put3 G Is3 JPMJ_s3 (by first | exact ⟨hps1.1, hps1.2⟩ | omega) (by first | exact ⟨hps3.1, hps3.2⟩ | omega)) ⟨by rw [E.2.2.2]; exact (show (rmN 28).frames + 1 ≤ (rmN 143).frames by decide), by rw [E.2.2.2]; exact (show 8 + (mNL (miB 28) + 11) + (rmN 28).locals ≤ (rmN 143).locals by decide), by rw [E.2.2.2]; exact (show (1 + 1) + 0 ≤ 2 by omega), by rw [E.2.2.2]; exact (show (6 + 6) + 0 ≤ 12 by omega)⟩ (Nat.le_of_ble_eq_true rfl) (fun vv s5 hq => ?_) (fun ee s5 hq => ?_)
  rotate_left
  · obtain ⟨Is5, Fs5, JPMJ_s5, e6, hv, hrs5, hps5⟩ := hq; cases hv
  obtain ⟨Is5, Fs5, JPMJ_s5, e6, hv, hrs5, hps5⟩ := hq
  cases hv
  have Gs5 := fm_ts Gs3 Fs5 (by decide) (by decide)
  show WS k 22 [(0, .ref (A 0)), (1, .int (Int32.ofInt u)), (2, .int (Int32.ofInt v))] [.int (Int32.ofInt e6)] (Wd A dT s5) (1 + 1) (6 + 6)
  exact w_iret X.1 q hRt rfl (ax_d X (show cdA 143 22 = some (.ireturn, 1, 0, 0, 0) from rfl)) (show (1 + 1) ≤ 2 by omega) (show (6 + 6) ≤ 12 by omega) ⟨_, rfl, Is5, Gs5, JPMJ_s5, Or.inl ⟨e6, rfl, hrs5, ⟨by first | exact hps1.1 | omega, by first | exact hps1.2 | omega, by first | exact hps3.1 | omega, by first | exact hps3.2 | omega, by have z := hps5.1.1; have z1 := aws3_21 (u : Int).toNat; omega, upd_st aws3_21 hps5.2⟩⟩⟩
set_option maxRecDepth 4000 in
theorem k_assign6 (G : GX l s0 D tys a0 dT) (I : Bd s) {x y : Int} (p0 : rng x) (p1 : rng y) : CT l s0 D A dT 234 (rmN 234) [.ref (A 179), .int (Int32.ofInt x), .int (Int32.ofInt y)] s (fun o t => Bd t ∧ Fm [73] [228] s t ∧ ∃ e, o = .inl (some (.int (Int32.ofInt e))) ∧ rng e ∧ ((0 ≤ x ∧ x ≤ 127 ∧ -1 ≤ y ∧ y ≤ 7 ∧ iI t 73 = 0 ∧ e = iC s 228 x.toNat ∧ UPD 228 x y s t) ∨ (((x < 0 ∨ 127 < x) ∧ iI t 73 = 1 ∨ (0 ≤ x ∧ x ≤ 127 ∧ (y < -1 ∨ 7 < y)) ∧ iI t 73 = 2) ∧ SAM 228 s t))) := by
  refine ct_of G (by decide) (Nat.le_of_ble_eq_true rfl) (fun k X E hRt hXt q => ?_)
  show WS k 0 [(0, .ref (A 179)), (1, .int (Int32.ofInt x)), (2, .int (Int32.ofInt y))] [] _ 0 0
  have F : Fm [73] [228] s s := fm_rf _ _ s
  have aw0_228 : SAM 228 s s := sam_rf
  have b1 : (0 : Int) ≤ iI s 73 ∧ iI s 73 ≤ 3 := I.1 73
  refine z_aload_n X (x := A 179) (show cdA 234 0 = some (.aload_n 0, 1, 0, 0, 0) from rfl) (List.Mem.head _) ?_
  refine z_const X (show cdA 234 1 = some (.iconst 0, 1, 0, 0, 0) from rfl) ?_
  refine s_putI X 179 (show cdA 234 2 = some (.putfield 172, 3, 12, 0, 0) from rfl) (by decide) rfl rfl (by decide) rfl rfl rfl ?_
  obtain ⟨s2, hs2⟩ : ∃ x0, x0 = uI s 73 (Int32.ofInt 0) := ⟨_, rfl⟩
  rw [← hs2]
  have Is2 : Bd s2 := by rw [hs2]; exact bd_I I (show (0 : Int) ≤ 0 ∧ 0 ≤ 3 by first | exact ⟨by decide, by decide⟩ | omega) (by decide)
  have Fs2 := fm_I (x := Int32.ofInt 0) F (show 73 ∈ _ by decide)
  rw [← hs2] at Fs2
  have vs2 : iI s2 73 = 0 := by rw [hs2]; exact iI_u (by decide)
  have aws2_228 : SAM 228 s s2 := by rw [hs2]; exact aw0_228
  refine z_aload_n X (x := A 179) (show cdA 234 5 = some (.aload_n 0, 1, 0, 0, 0) from rfl) (List.Mem.head _) ?_
  refine z_load_n X (x := x) (show cdA 234 6 = some (.iload_n 1, 1, 0, 0, 0) from rfl) (List.Mem.tail _ (List.Mem.head _)) ?_
  refine z_const X (show cdA 234 7 = some (.iconst 0, 1, 0, 0, 0) from rfl) ?_
  refine z_bipush X (show cdA 234 8 = some (.bipush 127, 2, 0, 0, 127) from rfl) ?_
  refine z_callS X (rm := rmN 188) (As := [.int (Int32.ofInt x), .int (Int32.ofInt 0), .int (Int32.ofInt 127)]) (st := [.ref (A 179)]) (show cdA 234 10 = some (.invokestatic 209, 3, 188, 1, 0) from rfl) rfl (by rw [E.1, E.2.1, E.2.2.1]; exact k_in2 G Is2 (by first | exact ⟨p0.1, p0.2⟩ | omega) (by first | exact ⟨by decide, by decide⟩ | omega) (by first | exact ⟨by decide, by decide⟩ | omega)) ⟨by rw [E.2.2.2]; exact (show (rmN 188).frames + 1 ≤ (rmN 234).frames by decide), by rw [E.2.2.2]; exact (show 8 + (mNL (miB 188) + 11) + (rmN 188).locals ≤ (rmN 234).locals by decide), by rw [E.2.2.2]; exact (show 0 + (rmN 188).cells ≤ (rmN 234).cells by decide), by rw [E.2.2.2]; exact (show 0 + (rmN 188).slots ≤ (rmN 234).slots by decide)⟩ (Nat.le_of_ble_eq_true rfl) (fun vv s3 hq => ?_) (fun ee s3 hq => ?_)
  rotate_left
  · obtain ⟨rfl, e4, hv, hrs3, hps3⟩ := hq; cases hv
  obtain ⟨rfl, e4, hv, hrs3, hps3⟩ := hq
  cases hv
  show WS k 13 [(0, .ref (A 179)), (1, .int (Int32.ofInt x)), (2, .int (Int32.ofInt y))] [.int (Int32.ofInt e4), .ref (A 179)] (Wd A dT s2) 0 0
  refine z_if_ne X (t := 20) (show cdA 234 13 = some (.ifCond .ne 7, 3, 1, 0, 0) from rfl) (by decide) hrs3 (fun g5 => ?_) (fun g5 => ?_)
  ·
    refine z_const X (show cdA 234 20 = some (.iconst 0, 1, 0, 0, 0) from rfl) ?_
    refine z_const X (show cdA 234 21 = some (.iconst 1, 1, 0, 0, 0) from rfl) ?_
    refine z_callV X 179 (rm := rmN 187) (As := [.int (Int32.ofInt 0), .int (Int32.ofInt 1)]) (st := []) (show cdA 234 22 = some (.invokevirtual 229, 3, 187, 0, 0) from rfl) rfl (by decide) rfl (by rw [E.1, E.2.1, E.2.2.1]; exact k_bad2 G Is2 (by first | exact Or.inl (by decide) | omega) (by first | exact ⟨by decide, by decide⟩ | omega)) ⟨by rw [E.2.2.2]; exact (show (rmN 187).frames + 1 ≤ (rmN 234).frames by decide), by rw [E.2.2.2]; exact (show 8 + (mNL (miB 187) + 11) + (rmN 187).locals ≤ (rmN 234).locals by decide), by rw [E.2.2.2]; exact (show 0 + (rmN 187).cells ≤ (rmN 234).cells by decide), by rw [E.2.2.2]; exact (show 0 + (rmN 187).slots ≤ (rmN 234).slots by decide)⟩ (Nat.le_of_ble_eq_true rfl) (fun vv s6 hq => ?_) (fun ee s6 hq => ?_)
    rotate_left
    · obtain ⟨Is6, Fs6, e7, hv, hrs6, hps6⟩ := hq; cases hv
    obtain ⟨Is6, Fs6, e7, hv, hrs6, hps6⟩ := hq
    cases hv
    have Gs6 := fm_ts Fs2 Fs6 (by decide) (by decide)
    have b8 : (0 : Int) ≤ iI s6 73 ∧ iI s6 73 ≤ 3 := Is6.1 73
    have aws6_228 : SAM 228 s s6 := sam_ts aws2_228 (sam_fm Fs6 (by decide))
    show WS k 25 [(0, .ref (A 179)), (1, .int (Int32.ofInt x)), (2, .int (Int32.ofInt y))] [.int (Int32.ofInt e7)] (Wd A dT s6) 0 0
    refine z_if_ne X (t := 51) (show cdA 234 25 = some (.ifCond .ne 26, 3, 1, 0, 0) from rfl) (by decide) hrs6 (fun g9 => ?_) (fun g9 => ?_)
    ·
      refine z_const X (show cdA 234 51 = some (.iconst 0, 1, 0, 0, 0) from rfl) ?_
      exact w_iret X.1 q hRt rfl (ax_d X (show cdA 234 52 = some (.ireturn, 1, 0, 0, 0) from rfl)) (Nat.zero_le _) (Nat.zero_le _) ⟨_, rfl, Is6, Gs6, 0, rfl, (by decide), Or.inr ⟨by first | exact oq_96b0b71b g9 hps6 vs2 | omega, aws6_228⟩⟩
    ·
      refine z_aload_n X (x := A 179) (show cdA 234 28 = some (.aload_n 0, 1, 0, 0, 0) from rfl) (List.Mem.head _) ?_
      refine z_load_n X (x := y) (show cdA 234 29 = some (.iload_n 2, 1, 0, 0, 0) from rfl) (List.Mem.tail _ (List.Mem.tail _ (List.Mem.head _))) ?_
      refine z_const X (show cdA 234 30 = some (.iconst (-1), 1, 0, 0, 0) from rfl) ?_
      refine z_bipush X (show cdA 234 31 = some (.bipush 7, 2, 0, 0, 7) from rfl) ?_
      refine z_callS X (rm := rmN 188) (As := [.int (Int32.ofInt y), .int (Int32.ofInt (-1)), .int (Int32.ofInt 7)]) (st := [.ref (A 179)]) (show cdA 234 33 = some (.invokestatic 209, 3, 188, 1, 0) from rfl) rfl (by rw [E.1, E.2.1, E.2.2.1]; exact k_in2 G Is6 (by first | exact ⟨p1.1, p1.2⟩ | omega) (by first | exact ⟨by decide, by decide⟩ | omega) (by first | exact ⟨by decide, by decide⟩ | omega)) ⟨by rw [E.2.2.2]; exact (show (rmN 188).frames + 1 ≤ (rmN 234).frames by decide), by rw [E.2.2.2]; exact (show 8 + (mNL (miB 188) + 11) + (rmN 188).locals ≤ (rmN 234).locals by decide), by rw [E.2.2.2]; exact (show 0 + (rmN 188).cells ≤ (rmN 234).cells by decide), by rw [E.2.2.2]; exact (show 0 + (rmN 188).slots ≤ (rmN 234).slots by decide)⟩ (Nat.le_of_ble_eq_true rfl) (fun vv s10 hq => ?_) (fun ee s10 hq => ?_)
      rotate_left
      · obtain ⟨rfl, e11, hv, hrs10, hps10⟩ := hq; cases hv
      obtain ⟨rfl, e11, hv, hrs10, hps10⟩ := hq
      cases hv
      show WS k 36 [(0, .ref (A 179)), (1, .int (Int32.ofInt x)), (2, .int (Int32.ofInt y))] [.int (Int32.ofInt e11), .ref (A 179)] (Wd A dT s6) 0 0
      refine z_if_ne X (t := 43) (show cdA 234 36 = some (.ifCond .ne 7, 3, 1, 0, 0) from rfl) (by decide) hrs10 (fun g12 => ?_) (fun g12 => ?_)
      ·
        refine z_const X (show cdA 234 43 = some (.iconst 0, 1, 0, 0, 0) from rfl) ?_
        refine z_const X (show cdA 234 44 = some (.iconst 2, 1, 0, 0, 0) from rfl) ?_
        refine z_callV X 179 (rm := rmN 187) (As := [.int (Int32.ofInt 0), .int (Int32.ofInt 2)]) (st := []) (show cdA 234 45 = some (.invokevirtual 229, 3, 187, 0, 0) from rfl) rfl (by decide) rfl (by rw [E.1, E.2.1, E.2.2.1]; exact k_bad2 G Is6 (by first | exact Or.inl (by decide) | omega) (by first | exact ⟨by decide, by decide⟩ | omega)) ⟨by rw [E.2.2.2]; exact (show (rmN 187).frames + 1 ≤ (rmN 234).frames by decide), by rw [E.2.2.2]; exact (show 8 + (mNL (miB 187) + 11) + (rmN 187).locals ≤ (rmN 234).locals by decide), by rw [E.2.2.2]; exact (show 0 + (rmN 187).cells ≤ (rmN 234).cells by decide), by rw [E.2.2.2]; exact (show 0 + (rmN 187).slots ≤ (rmN 234).slots by decide)⟩ (Nat.le_of_ble_eq_true rfl) (fun vv s13 hq => ?_) (fun ee s13 hq => ?_)
        rotate_left
        · obtain ⟨Is13, Fs13, e14, hv, hrs13, hps13⟩ := hq; cases hv
        obtain ⟨Is13, Fs13, e14, hv, hrs13, hps13⟩ := hq
        cases hv
        have Gs13 := fm_ts Gs6 Fs13 (by decide) (by decide)
        have b15 : (0 : Int) ≤ iI s13 73 ∧ iI s13 73 ≤ 3 := Is13.1 73
        have aws13_228 : SAM 228 s s13 := sam_ts aws6_228 (sam_fm Fs13 (by decide))
        show WS k 48 [(0, .ref (A 179)), (1, .int (Int32.ofInt x)), (2, .int (Int32.ofInt y))] [.int (Int32.ofInt e14)] (Wd A dT s13) 0 0
        refine z_if_eq X (t := 53) (show cdA 234 48 = some (.ifCond .eq 5, 3, 0, 0, 0) from rfl) (by decide) hrs13 (fun g16 => ?_) (fun g16 => ?_)
        ·
          refine z_aload_n X (x := A 179) (show cdA 234 53 = some (.aload_n 0, 1, 0, 0, 0) from rfl) (List.Mem.head _) ?_
          refine s_getR X 179 (show cdA 234 54 = some (.getfield 70, 3, 12, 35, 0) from rfl) (by decide) rfl rfl ?_
          refine z_load_n X (x := x) (show cdA 234 57 = some (.iload_n 1, 1, 0, 0, 0) from rfl) (List.Mem.tail _ (List.Mem.head _)) ?_
          refine z_ald X 256 (show cdA 234 58 = some (.iaload, 1, 0, 0, 0) from rfl) (by decide) rfl (by first | exact oq_77708b6d g5 hps3 | omega) (show x < 128 by first | exact oq_d041223a g5 hps3 | omega) (by decide) ?_
          have b17 : ((-1) : Int) ≤ iC s13 228 (x).toNat ∧ iC s13 228 (x).toNat ≤ 7 := Is13.2 228 _ (show (x).toNat < 128 by first | exact oq_2cca4c9a g5 hps3 | omega)
          have ar18 : iC s13 228 (x).toNat = iC s 228 (x).toNat := aws13_228 _
          refine z_store_n X (lv' := [(3, .int (Int32.ofInt (iC s13 228 (x).toNat))), (0, .ref (A 179)), (1, .int (Int32.ofInt x)), (2, .int (Int32.ofInt y))]) (show cdA 234 59 = some (.istore_n 3, 1, 0, 0, 0) from rfl) (by decide) (fun _ h => h) ?_
          refine z_aload_n X (x := A 179) (show cdA 234 60 = some (.aload_n 0, 1, 0, 0, 0) from rfl) (List.Mem.tail _ (List.Mem.head _)) ?_
          refine s_getR X 179 (show cdA 234 61 = some (.getfield 70, 3, 12, 35, 0) from rfl) (by decide) rfl rfl ?_
          refine z_load_n X (x := x) (show cdA 234 64 = some (.iload_n 1, 1, 0, 0, 0) from rfl) (List.Mem.tail _ (List.Mem.tail _ (List.Mem.head _))) ?_
          refine z_load_n X (x := y) (show cdA 234 65 = some (.iload_n 2, 1, 0, 0, 0) from rfl) (List.Mem.tail _ (List.Mem.tail _ (List.Mem.tail _ (List.Mem.head _)))) ?_
          refine z_ast X 256 (show cdA 234 66 = some (.iastore, 1, 0, 0, 0) from rfl) (by decide) rfl (by first | exact oq_77708b6d g5 hps3 | omega) (show x < 128 by first | exact oq_d041223a g5 hps3 | omega) (by decide) ?_
          obtain ⟨s19, hs19⟩ : ∃ x0, x0 = uC s13 228 (x).toNat (Int32.ofInt y) := ⟨_, rfl⟩
          rw [← hs19]
          have Is19 : Bd s19 := by rw [hs19]; exact bd_C Is13 (show ((-1) : Int) ≤ y ∧ y ≤ 7 by first | exact ⟨oq_11b2355d g12 hps10, oq_9bda434c g12 hps10⟩ | omega) ⟨by first | exact p1.1 | omega, by first | exact p1.2 | omega⟩
          have Fs19 := fm_C (i := (x).toNat) (x := Int32.ofInt y) Gs13 (show 228 ∈ _ by decide)
          rw [← hs19] at Fs19
          have ws19_73 : iI s19 73 = iI s13 73 := by rw [hs19]; rfl
          have aws19_228 : UPD 228 (x) y s s19 := by rw [hs19]; exact upd_put aws13_228 ⟨by first | exact p1.1 | omega, by first | exact p1.2 | omega⟩
          refine z_load_n X (x := (iC s13 228 (x).toNat)) (show cdA 234 67 = some (.iload_n 3, 1, 0, 0, 0) from rfl) (List.Mem.head _) ?_
          exact w_iret X.1 q hRt rfl (ax_d X (show cdA 234 68 = some (.ireturn, 1, 0, 0, 0) from rfl)) (Nat.zero_le _) (Nat.zero_le _) ⟨_, rfl, Is19, Fs19, (iC s13 228 (x).toNat), rfl, (rng_to _), Or.inl ⟨by first | exact oq_77708b6d g5 hps3 | omega, by first | exact oq_09803752 g5 hps3 | omega, by first | exact oq_11b2355d g12 hps10 | omega, by first | exact oq_9bda434c g12 hps10 | omega, by first | exact oq_7d0f2b81 ws19_73 b15.1 hps13 hps6 vs2 | omega, by first | exact ar18 | omega, aws19_228⟩⟩
        ·
          refine z_const X (show cdA 234 51 = some (.iconst 0, 1, 0, 0, 0) from rfl) ?_
          exact w_iret X.1 q hRt rfl (ax_d X (show cdA 234 52 = some (.ireturn, 1, 0, 0, 0) from rfl)) (Nat.zero_le _) (Nat.zero_le _) ⟨_, rfl, Is13, Gs13, 0, rfl, (by decide), Or.inr ⟨by first | exact oq_242446e7 g16 hps13 b8.1 hps6 vs2 | omega, aws13_228⟩⟩
      ·
        refine z_const X (show cdA 234 39 = some (.iconst 1, 1, 0, 0, 0) from rfl) ?_
        refine z_goto X (t := 44) (show cdA 234 40 = some (.goto 4, 3, 0, 0, 0) from rfl) (by decide) ?_
        refine z_const X (show cdA 234 44 = some (.iconst 2, 1, 0, 0, 0) from rfl) ?_
        refine z_callV X 179 (rm := rmN 187) (As := [.int (Int32.ofInt 1), .int (Int32.ofInt 2)]) (st := []) (show cdA 234 45 = some (.invokevirtual 229, 3, 187, 0, 0) from rfl) rfl (by decide) rfl (by rw [E.1, E.2.1, E.2.2.1]; exact k_bad2 G Is6 (by first | exact Or.inr (by decide) | omega) (by first | exact ⟨by decide, by decide⟩ | omega)) ⟨by rw [E.2.2.2]; exact (show (rmN 187).frames + 1 ≤ (rmN 234).frames by decide), by rw [E.2.2.2]; exact (show 8 + (mNL (miB 187) + 11) + (rmN 187).locals ≤ (rmN 234).locals by decide), by rw [E.2.2.2]; exact (show 0 + (rmN 187).cells ≤ (rmN 234).cells by decide), by rw [E.2.2.2]; exact (show 0 + (rmN 187).slots ≤ (rmN 234).slots by decide)⟩ (Nat.le_of_ble_eq_true rfl) (fun vv s20 hq => ?_) (fun ee s20 hq => ?_)
        rotate_left
        · obtain ⟨Is20, Fs20, e21, hv, hrs20, hps20⟩ := hq; cases hv
        obtain ⟨Is20, Fs20, e21, hv, hrs20, hps20⟩ := hq
        cases hv
        have Gs20 := fm_ts Gs6 Fs20 (by decide) (by decide)
        have b22 : (0 : Int) ≤ iI s20 73 ∧ iI s20 73 ≤ 3 := Is20.1 73
        have aws20_228 : SAM 228 s s20 := sam_ts aws6_228 (sam_fm Fs20 (by decide))
        show WS k 48 [(0, .ref (A 179)), (1, .int (Int32.ofInt x)), (2, .int (Int32.ofInt y))] [.int (Int32.ofInt e21)] (Wd A dT s20) 0 0
        refine z_if_eq X (t := 53) (show cdA 234 48 = some (.ifCond .eq 5, 3, 0, 0, 0) from rfl) (by decide) hrs20 (fun g23 => ?_) (fun g23 => ?_)
        ·
          refine z_aload_n X (x := A 179) (show cdA 234 53 = some (.aload_n 0, 1, 0, 0, 0) from rfl) (List.Mem.head _) ?_
          refine s_getR X 179 (show cdA 234 54 = some (.getfield 70, 3, 12, 35, 0) from rfl) (by decide) rfl rfl ?_
          refine z_load_n X (x := x) (show cdA 234 57 = some (.iload_n 1, 1, 0, 0, 0) from rfl) (List.Mem.tail _ (List.Mem.head _)) ?_
          refine z_ald X 256 (show cdA 234 58 = some (.iaload, 1, 0, 0, 0) from rfl) (by decide) rfl (by first | exact oq_77708b6d g5 hps3 | omega) (show x < 128 by first | exact oq_d041223a g5 hps3 | omega) (by decide) ?_
          have b24 : ((-1) : Int) ≤ iC s20 228 (x).toNat ∧ iC s20 228 (x).toNat ≤ 7 := Is20.2 228 _ (show (x).toNat < 128 by first | exact oq_2cca4c9a g5 hps3 | omega)
          have ar25 : iC s20 228 (x).toNat = iC s 228 (x).toNat := aws20_228 _
          refine z_store_n X (lv' := [(3, .int (Int32.ofInt (iC s20 228 (x).toNat))), (0, .ref (A 179)), (1, .int (Int32.ofInt x)), (2, .int (Int32.ofInt y))]) (show cdA 234 59 = some (.istore_n 3, 1, 0, 0, 0) from rfl) (by decide) (fun _ h => h) ?_
          refine z_aload_n X (x := A 179) (show cdA 234 60 = some (.aload_n 0, 1, 0, 0, 0) from rfl) (List.Mem.tail _ (List.Mem.head _)) ?_
          refine s_getR X 179 (show cdA 234 61 = some (.getfield 70, 3, 12, 35, 0) from rfl) (by decide) rfl rfl ?_
          refine z_load_n X (x := x) (show cdA 234 64 = some (.iload_n 1, 1, 0, 0, 0) from rfl) (List.Mem.tail _ (List.Mem.tail _ (List.Mem.head _))) ?_
          refine z_load_n X (x := y) (show cdA 234 65 = some (.iload_n 2, 1, 0, 0, 0) from rfl) (List.Mem.tail _ (List.Mem.tail _ (List.Mem.tail _ (List.Mem.head _)))) ?_
          refine z_ast X 256 (show cdA 234 66 = some (.iastore, 1, 0, 0, 0) from rfl) (by decide) rfl (by first | exact oq_77708b6d g5 hps3 | omega) (show x < 128 by first | exact oq_d041223a g5 hps3 | omega) (by decide) ?_
          obtain ⟨s26, hs26⟩ : ∃ x0, x0 = uC s20 228 (x).toNat (Int32.ofInt y) := ⟨_, rfl⟩
          rw [← hs26]
          have Is26 : Bd s26 := by rw [hs26]; exact bd_C Is20 (show ((-1) : Int) ≤ y ∧ y ≤ 7 by first | exact ⟨oq_02216707 g23 hps20 b8.1 hps6 vs2, oq_4bd3f58e g23 hps20 b8.1 hps6 vs2⟩ | omega) ⟨by first | exact p1.1 | omega, by first | exact p1.2 | omega⟩
          have Fs26 := fm_C (i := (x).toNat) (x := Int32.ofInt y) Gs20 (show 228 ∈ _ by decide)
          rw [← hs26] at Fs26
          have ws26_73 : iI s26 73 = iI s20 73 := by rw [hs26]; rfl
          have aws26_228 : UPD 228 (x) y s s26 := by rw [hs26]; exact upd_put aws20_228 ⟨by first | exact p1.1 | omega, by first | exact p1.2 | omega⟩
          refine z_load_n X (x := (iC s20 228 (x).toNat)) (show cdA 234 67 = some (.iload_n 3, 1, 0, 0, 0) from rfl) (List.Mem.head _) ?_
          exact w_iret X.1 q hRt rfl (ax_d X (show cdA 234 68 = some (.ireturn, 1, 0, 0, 0) from rfl)) (Nat.zero_le _) (Nat.zero_le _) ⟨_, rfl, Is26, Fs26, (iC s20 228 (x).toNat), rfl, (rng_to _), Or.inl ⟨by first | exact oq_77708b6d g5 hps3 | omega, by first | exact oq_09803752 g5 hps3 | omega, by first | exact oq_02216707 g23 hps20 b8.1 hps6 vs2 | omega, by first | exact oq_4bd3f58e g23 hps20 b8.1 hps6 vs2 | omega, by first | exact oq_d8324c30 ws26_73 g23 b22.1 hps20 hps6 vs2 | omega, by first | exact ar25 | omega, aws26_228⟩⟩
        ·
          refine z_const X (show cdA 234 51 = some (.iconst 0, 1, 0, 0, 0) from rfl) ?_
          exact w_iret X.1 q hRt rfl (ax_d X (show cdA 234 52 = some (.ireturn, 1, 0, 0, 0) from rfl)) (Nat.zero_le _) (Nat.zero_le _) ⟨_, rfl, Is20, Gs20, 0, rfl, (by decide), Or.inr ⟨by first | exact oq_588e89dd g23 hps20 g12 hps10 b8.1 hps6 g5 hps3 vs2 | omega, aws20_228⟩⟩
  ·
    refine z_const X (show cdA 234 16 = some (.iconst 1, 1, 0, 0, 0) from rfl) ?_
    refine z_goto X (t := 21) (show cdA 234 17 = some (.goto 4, 3, 0, 0, 0) from rfl) (by decide) ?_
    refine z_const X (show cdA 234 21 = some (.iconst 1, 1, 0, 0, 0) from rfl) ?_
    refine z_callV X 179 (rm := rmN 187) (As := [.int (Int32.ofInt 1), .int (Int32.ofInt 1)]) (st := []) (show cdA 234 22 = some (.invokevirtual 229, 3, 187, 0, 0) from rfl) rfl (by decide) rfl (by rw [E.1, E.2.1, E.2.2.1]; exact k_bad2 G Is2 (by first | exact Or.inr (by decide) | omega) (by first | exact ⟨by decide, by decide⟩ | omega)) ⟨by rw [E.2.2.2]; exact (show (rmN 187).frames + 1 ≤ (rmN 234).frames by decide), by rw [E.2.2.2]; exact (show 8 + (mNL (miB 187) + 11) + (rmN 187).locals ≤ (rmN 234).locals by decide), by rw [E.2.2.2]; exact (show 0 + (rmN 187).cells ≤ (rmN 234).cells by decide), by rw [E.2.2.2]; exact (show 0 + (rmN 187).slots ≤ (rmN 234).slots by decide)⟩ (Nat.le_of_ble_eq_true rfl) (fun vv s27 hq => ?_) (fun ee s27 hq => ?_)
    rotate_left
    · obtain ⟨Is27, Fs27, e28, hv, hrs27, hps27⟩ := hq; cases hv
    obtain ⟨Is27, Fs27, e28, hv, hrs27, hps27⟩ := hq
    cases hv
    have Gs27 := fm_ts Fs2 Fs27 (by decide) (by decide)
    have b29 : (0 : Int) ≤ iI s27 73 ∧ iI s27 73 ≤ 3 := Is27.1 73
    have aws27_228 : SAM 228 s s27 := sam_ts aws2_228 (sam_fm Fs27 (by decide))
    show WS k 25 [(0, .ref (A 179)), (1, .int (Int32.ofInt x)), (2, .int (Int32.ofInt y))] [.int (Int32.ofInt e28)] (Wd A dT s27) 0 0
    refine z_if_ne X (t := 51) (show cdA 234 25 = some (.ifCond .ne 26, 3, 1, 0, 0) from rfl) (by decide) hrs27 (fun g30 => ?_) (fun g30 => ?_)
    ·
      refine z_const X (show cdA 234 51 = some (.iconst 0, 1, 0, 0, 0) from rfl) ?_
      exact w_iret X.1 q hRt rfl (ax_d X (show cdA 234 52 = some (.ireturn, 1, 0, 0, 0) from rfl)) (Nat.zero_le _) (Nat.zero_le _) ⟨_, rfl, Is27, Gs27, 0, rfl, (by decide), Or.inr ⟨by first | exact oq_a234281b g30 hps27 g5 hps3 vs2 | omega, aws27_228⟩⟩
    ·
      refine z_aload_n X (x := A 179) (show cdA 234 28 = some (.aload_n 0, 1, 0, 0, 0) from rfl) (List.Mem.head _) ?_
      refine z_load_n X (x := y) (show cdA 234 29 = some (.iload_n 2, 1, 0, 0, 0) from rfl) (List.Mem.tail _ (List.Mem.tail _ (List.Mem.head _))) ?_
      refine z_const X (show cdA 234 30 = some (.iconst (-1), 1, 0, 0, 0) from rfl) ?_
      refine z_bipush X (show cdA 234 31 = some (.bipush 7, 2, 0, 0, 7) from rfl) ?_
      refine z_callS X (rm := rmN 188) (As := [.int (Int32.ofInt y), .int (Int32.ofInt (-1)), .int (Int32.ofInt 7)]) (st := [.ref (A 179)]) (show cdA 234 33 = some (.invokestatic 209, 3, 188, 1, 0) from rfl) rfl (by rw [E.1, E.2.1, E.2.2.1]; exact k_in2 G Is27 (by first | exact ⟨p1.1, p1.2⟩ | omega) (by first | exact ⟨by decide, by decide⟩ | omega) (by first | exact ⟨by decide, by decide⟩ | omega)) ⟨by rw [E.2.2.2]; exact (show (rmN 188).frames + 1 ≤ (rmN 234).frames by decide), by rw [E.2.2.2]; exact (show 8 + (mNL (miB 188) + 11) + (rmN 188).locals ≤ (rmN 234).locals by decide), by rw [E.2.2.2]; exact (show 0 + (rmN 188).cells ≤ (rmN 234).cells by decide), by rw [E.2.2.2]; exact (show 0 + (rmN 188).slots ≤ (rmN 234).slots by decide)⟩ (Nat.le_of_ble_eq_true rfl) (fun vv s31 hq => ?_) (fun ee s31 hq => ?_)
      rotate_left
      · obtain ⟨rfl, e32, hv, hrs31, hps31⟩ := hq; cases hv
      obtain ⟨rfl, e32, hv, hrs31, hps31⟩ := hq
      cases hv
      show WS k 36 [(0, .ref (A 179)), (1, .int (Int32.ofInt x)), (2, .int (Int32.ofInt y))] [.int (Int32.ofInt e32), .ref (A 179)] (Wd A dT s27) 0 0
      refine z_if_ne X (t := 43) (show cdA 234 36 = some (.ifCond .ne 7, 3, 1, 0, 0) from rfl) (by decide) hrs31 (fun g33 => ?_) (fun g33 => ?_)
      ·
        refine z_const X (show cdA 234 43 = some (.iconst 0, 1, 0, 0, 0) from rfl) ?_
        refine z_const X (show cdA 234 44 = some (.iconst 2, 1, 0, 0, 0) from rfl) ?_
        refine z_callV X 179 (rm := rmN 187) (As := [.int (Int32.ofInt 0), .int (Int32.ofInt 2)]) (st := []) (show cdA 234 45 = some (.invokevirtual 229, 3, 187, 0, 0) from rfl) rfl (by decide) rfl (by rw [E.1, E.2.1, E.2.2.1]; exact k_bad2 G Is27 (by first | exact Or.inl (by decide) | omega) (by first | exact ⟨by decide, by decide⟩ | omega)) ⟨by rw [E.2.2.2]; exact (show (rmN 187).frames + 1 ≤ (rmN 234).frames by decide), by rw [E.2.2.2]; exact (show 8 + (mNL (miB 187) + 11) + (rmN 187).locals ≤ (rmN 234).locals by decide), by rw [E.2.2.2]; exact (show 0 + (rmN 187).cells ≤ (rmN 234).cells by decide), by rw [E.2.2.2]; exact (show 0 + (rmN 187).slots ≤ (rmN 234).slots by decide)⟩ (Nat.le_of_ble_eq_true rfl) (fun vv s34 hq => ?_) (fun ee s34 hq => ?_)
        rotate_left
        · obtain ⟨Is34, Fs34, e35, hv, hrs34, hps34⟩ := hq; cases hv
        obtain ⟨Is34, Fs34, e35, hv, hrs34, hps34⟩ := hq
        cases hv
        have Gs34 := fm_ts Gs27 Fs34 (by decide) (by decide)
        have b36 : (0 : Int) ≤ iI s34 73 ∧ iI s34 73 ≤ 3 := Is34.1 73
        have aws34_228 : SAM 228 s s34 := sam_ts aws27_228 (sam_fm Fs34 (by decide))
        show WS k 48 [(0, .ref (A 179)), (1, .int (Int32.ofInt x)), (2, .int (Int32.ofInt y))] [.int (Int32.ofInt e35)] (Wd A dT s34) 0 0
        refine z_if_eq X (t := 53) (show cdA 234 48 = some (.ifCond .eq 5, 3, 0, 0, 0) from rfl) (by decide) hrs34 (fun g37 => ?_) (fun g37 => ?_)
        ·
          refine z_aload_n X (x := A 179) (show cdA 234 53 = some (.aload_n 0, 1, 0, 0, 0) from rfl) (List.Mem.head _) ?_
          refine s_getR X 179 (show cdA 234 54 = some (.getfield 70, 3, 12, 35, 0) from rfl) (by decide) rfl rfl ?_
          refine z_load_n X (x := x) (show cdA 234 57 = some (.iload_n 1, 1, 0, 0, 0) from rfl) (List.Mem.tail _ (List.Mem.head _)) ?_
          refine z_ald X 256 (show cdA 234 58 = some (.iaload, 1, 0, 0, 0) from rfl) (by decide) rfl (by first | exact oq_674898f9 g30 hps27 vs2 | omega) (show x < 128 by first | exact oq_f0812281 g30 hps27 vs2 | omega) (by decide) ?_
          have b38 : ((-1) : Int) ≤ iC s34 228 (x).toNat ∧ iC s34 228 (x).toNat ≤ 7 := Is34.2 228 _ (show (x).toNat < 128 by first | exact oq_bda6cf9e g30 hps27 vs2 | omega)
          have ar39 : iC s34 228 (x).toNat = iC s 228 (x).toNat := aws34_228 _
          refine z_store_n X (lv' := [(3, .int (Int32.ofInt (iC s34 228 (x).toNat))), (0, .ref (A 179)), (1, .int (Int32.ofInt x)), (2, .int (Int32.ofInt y))]) (show cdA 234 59 = some (.istore_n 3, 1, 0, 0, 0) from rfl) (by decide) (fun _ h => h) ?_
          refine z_aload_n X (x := A 179) (show cdA 234 60 = some (.aload_n 0, 1, 0, 0, 0) from rfl) (List.Mem.tail _ (List.Mem.head _)) ?_
          refine s_getR X 179 (show cdA 234 61 = some (.getfield 70, 3, 12, 35, 0) from rfl) (by decide) rfl rfl ?_
          refine z_load_n X (x := x) (show cdA 234 64 = some (.iload_n 1, 1, 0, 0, 0) from rfl) (List.Mem.tail _ (List.Mem.tail _ (List.Mem.head _))) ?_
          refine z_load_n X (x := y) (show cdA 234 65 = some (.iload_n 2, 1, 0, 0, 0) from rfl) (List.Mem.tail _ (List.Mem.tail _ (List.Mem.tail _ (List.Mem.head _)))) ?_
          refine z_ast X 256 (show cdA 234 66 = some (.iastore, 1, 0, 0, 0) from rfl) (by decide) rfl (by first | exact oq_674898f9 g30 hps27 vs2 | omega) (show x < 128 by first | exact oq_f0812281 g30 hps27 vs2 | omega) (by decide) ?_
          obtain ⟨s40, hs40⟩ : ∃ x0, x0 = uC s34 228 (x).toNat (Int32.ofInt y) := ⟨_, rfl⟩
          rw [← hs40]
          have Is40 : Bd s40 := by rw [hs40]; exact bd_C Is34 (show ((-1) : Int) ≤ y ∧ y ≤ 7 by first | exact ⟨oq_11b2355d g33 hps31, oq_9bda434c g33 hps31⟩ | omega) ⟨by first | exact p1.1 | omega, by first | exact p1.2 | omega⟩
          have Fs40 := fm_C (i := (x).toNat) (x := Int32.ofInt y) Gs34 (show 228 ∈ _ by decide)
          rw [← hs40] at Fs40
          have ws40_73 : iI s40 73 = iI s34 73 := by rw [hs40]; rfl
          have aws40_228 : UPD 228 (x) y s s40 := by rw [hs40]; exact upd_put aws34_228 ⟨by first | exact p1.1 | omega, by first | exact p1.2 | omega⟩
          refine z_load_n X (x := (iC s34 228 (x).toNat)) (show cdA 234 67 = some (.iload_n 3, 1, 0, 0, 0) from rfl) (List.Mem.head _) ?_
          exact w_iret X.1 q hRt rfl (ax_d X (show cdA 234 68 = some (.ireturn, 1, 0, 0, 0) from rfl)) (Nat.zero_le _) (Nat.zero_le _) ⟨_, rfl, Is40, Fs40, (iC s34 228 (x).toNat), rfl, (rng_to _), Or.inl ⟨by first | exact oq_674898f9 g30 hps27 vs2 | omega, by first | exact oq_8c12aa35 g30 hps27 vs2 | omega, by first | exact oq_11b2355d g33 hps31 | omega, by first | exact oq_9bda434c g33 hps31 | omega, by first | exact oq_fa275550 ws40_73 b36.1 hps34 g30 hps27 vs2 | omega, by first | exact ar39 | omega, aws40_228⟩⟩
        ·
          refine z_const X (show cdA 234 51 = some (.iconst 0, 1, 0, 0, 0) from rfl) ?_
          exact w_iret X.1 q hRt rfl (ax_d X (show cdA 234 52 = some (.ireturn, 1, 0, 0, 0) from rfl)) (Nat.zero_le _) (Nat.zero_le _) ⟨_, rfl, Is34, Gs34, 0, rfl, (by decide), Or.inr ⟨by first | exact oq_0b5f3ee3 g37 hps34 g30 b29.1 hps27 vs2 | omega, aws34_228⟩⟩
      ·
        refine z_const X (show cdA 234 39 = some (.iconst 1, 1, 0, 0, 0) from rfl) ?_
        refine z_goto X (t := 44) (show cdA 234 40 = some (.goto 4, 3, 0, 0, 0) from rfl) (by decide) ?_
        refine z_const X (show cdA 234 44 = some (.iconst 2, 1, 0, 0, 0) from rfl) ?_
        refine z_callV X 179 (rm := rmN 187) (As := [.int (Int32.ofInt 1), .int (Int32.ofInt 2)]) (st := []) (show cdA 234 45 = some (.invokevirtual 229, 3, 187, 0, 0) from rfl) rfl (by decide) rfl (by rw [E.1, E.2.1, E.2.2.1]; exact k_bad2 G Is27 (by first | exact Or.inr (by decide) | omega) (by first | exact ⟨by decide, by decide⟩ | omega)) ⟨by rw [E.2.2.2]; exact (show (rmN 187).frames + 1 ≤ (rmN 234).frames by decide), by rw [E.2.2.2]; exact (show 8 + (mNL (miB 187) + 11) + (rmN 187).locals ≤ (rmN 234).locals by decide), by rw [E.2.2.2]; exact (show 0 + (rmN 187).cells ≤ (rmN 234).cells by decide), by rw [E.2.2.2]; exact (show 0 + (rmN 187).slots ≤ (rmN 234).slots by decide)⟩ (Nat.le_of_ble_eq_true rfl) (fun vv s41 hq => ?_) (fun ee s41 hq => ?_)
        rotate_left
        · obtain ⟨Is41, Fs41, e42, hv, hrs41, hps41⟩ := hq; cases hv
        obtain ⟨Is41, Fs41, e42, hv, hrs41, hps41⟩ := hq
        cases hv
        have Gs41 := fm_ts Gs27 Fs41 (by decide) (by decide)
        have b43 : (0 : Int) ≤ iI s41 73 ∧ iI s41 73 ≤ 3 := Is41.1 73
        have aws41_228 : SAM 228 s s41 := sam_ts aws27_228 (sam_fm Fs41 (by decide))
        show WS k 48 [(0, .ref (A 179)), (1, .int (Int32.ofInt x)), (2, .int (Int32.ofInt y))] [.int (Int32.ofInt e42)] (Wd A dT s41) 0 0
        refine z_if_eq X (t := 53) (show cdA 234 48 = some (.ifCond .eq 5, 3, 0, 0, 0) from rfl) (by decide) hrs41 (fun g44 => ?_) (fun g44 => ?_)
        ·
          refine z_aload_n X (x := A 179) (show cdA 234 53 = some (.aload_n 0, 1, 0, 0, 0) from rfl) (List.Mem.head _) ?_
          refine s_getR X 179 (show cdA 234 54 = some (.getfield 70, 3, 12, 35, 0) from rfl) (by decide) rfl rfl ?_
          refine z_load_n X (x := x) (show cdA 234 57 = some (.iload_n 1, 1, 0, 0, 0) from rfl) (List.Mem.tail _ (List.Mem.head _)) ?_
          refine z_ald X 256 (show cdA 234 58 = some (.iaload, 1, 0, 0, 0) from rfl) (by decide) rfl (by first | exact oq_7bca4f44 g44 hps41 g30 b29.1 hps27 vs2 | omega) (show x < 128 by first | exact oq_02757110 g44 hps41 g30 b29.1 hps27 vs2 | omega) (by decide) ?_
          have b45 : ((-1) : Int) ≤ iC s41 228 (x).toNat ∧ iC s41 228 (x).toNat ≤ 7 := Is41.2 228 _ (show (x).toNat < 128 by first | exact oq_b15e11a6 g44 hps41 g30 b29.1 hps27 vs2 | omega)
          have ar46 : iC s41 228 (x).toNat = iC s 228 (x).toNat := aws41_228 _
          refine z_store_n X (lv' := [(3, .int (Int32.ofInt (iC s41 228 (x).toNat))), (0, .ref (A 179)), (1, .int (Int32.ofInt x)), (2, .int (Int32.ofInt y))]) (show cdA 234 59 = some (.istore_n 3, 1, 0, 0, 0) from rfl) (by decide) (fun _ h => h) ?_
          refine z_aload_n X (x := A 179) (show cdA 234 60 = some (.aload_n 0, 1, 0, 0, 0) from rfl) (List.Mem.tail _ (List.Mem.head _)) ?_
          refine s_getR X 179 (show cdA 234 61 = some (.getfield 70, 3, 12, 35, 0) from rfl) (by decide) rfl rfl ?_
          refine z_load_n X (x := x) (show cdA 234 64 = some (.iload_n 1, 1, 0, 0, 0) from rfl) (List.Mem.tail _ (List.Mem.tail _ (List.Mem.head _))) ?_
          refine z_load_n X (x := y) (show cdA 234 65 = some (.iload_n 2, 1, 0, 0, 0) from rfl) (List.Mem.tail _ (List.Mem.tail _ (List.Mem.tail _ (List.Mem.head _)))) ?_
          refine z_ast X 256 (show cdA 234 66 = some (.iastore, 1, 0, 0, 0) from rfl) (by decide) rfl (by first | exact oq_7bca4f44 g44 hps41 g30 b29.1 hps27 vs2 | omega) (show x < 128 by first | exact oq_02757110 g44 hps41 g30 b29.1 hps27 vs2 | omega) (by decide) ?_
          obtain ⟨s47, hs47⟩ : ∃ x0, x0 = uC s41 228 (x).toNat (Int32.ofInt y) := ⟨_, rfl⟩
          rw [← hs47]
          have Is47 : Bd s47 := by rw [hs47]; exact bd_C Is41 (show ((-1) : Int) ≤ y ∧ y ≤ 7 by first | exact ⟨oq_3b413d69 g44 hps41 g30 b29.1 hps27 vs2, oq_9ed0cc03 g44 hps41 g30 b29.1 hps27 vs2⟩ | omega) ⟨by first | exact p1.1 | omega, by first | exact p1.2 | omega⟩
          have Fs47 := fm_C (i := (x).toNat) (x := Int32.ofInt y) Gs41 (show 228 ∈ _ by decide)
          rw [← hs47] at Fs47
          have ws47_73 : iI s47 73 = iI s41 73 := by rw [hs47]; rfl
          have aws47_228 : UPD 228 (x) y s s47 := by rw [hs47]; exact upd_put aws41_228 ⟨by first | exact p1.1 | omega, by first | exact p1.2 | omega⟩
          refine z_load_n X (x := (iC s41 228 (x).toNat)) (show cdA 234 67 = some (.iload_n 3, 1, 0, 0, 0) from rfl) (List.Mem.head _) ?_
          exact w_iret X.1 q hRt rfl (ax_d X (show cdA 234 68 = some (.ireturn, 1, 0, 0, 0) from rfl)) (Nat.zero_le _) (Nat.zero_le _) ⟨_, rfl, Is47, Fs47, (iC s41 228 (x).toNat), rfl, (rng_to _), Or.inl ⟨by first | exact oq_7bca4f44 g44 hps41 g30 b29.1 hps27 vs2 | omega, by first | exact oq_8960f5c7 g44 hps41 g30 b29.1 hps27 vs2 | omega, by first | exact oq_3b413d69 g44 hps41 g30 b29.1 hps27 vs2 | omega, by first | exact oq_9ed0cc03 g44 hps41 g30 b29.1 hps27 vs2 | omega, by first | exact oq_559236d4 ws47_73 g44 b43.1 hps41 g30 hps27 vs2 | omega, by first | exact ar46 | omega, aws47_228⟩⟩
        ·
          refine z_const X (show cdA 234 51 = some (.iconst 0, 1, 0, 0, 0) from rfl) ?_
          exact w_iret X.1 q hRt rfl (ax_d X (show cdA 234 52 = some (.ireturn, 1, 0, 0, 0) from rfl)) (Nat.zero_le _) (Nat.zero_le _) ⟨_, rfl, Is41, Gs41, 0, rfl, (by decide), Or.inr ⟨by first | exact oq_e62f42ed g30 hps27 vs2 | omega, aws41_228⟩⟩
set_option maxRecDepth 4000 in
theorem c3_putAll6 (G : GX l s0 D tys a0 dT) (I : Bd s) (jPMJ : PMJ s) {x y z : Int} (p0 : 0 ≤ x ∧ x ≤ 127) (p1 : 0 ≤ y ∧ y ≤ 127) (p2 : -1 ≤ z ∧ z ≤ 7) (p3 : x ≤ y) : CT l s0 D A dT 29 (rmN 29) [.ref (A 25), .int (Int32.ofInt x), .int (Int32.ofInt y), .int (Int32.ofInt z)] s (fun o t => Bd t ∧ Fm [] [21, 1022, 1023] s t ∧ PMJ t ∧ ∃ e, o = .inl (some (.int (Int32.ofInt e))) ∧ rng e ∧ (PNQ (bxC x y) (pfC s) (pfC t) z 128 e)) := by
  refine ct_ofX G (by decide) (Nat.le_of_ble_eq_true rfl) (fun k X E ET hRt hXt q => ?_)
  show WS k 0 [(0, .ref (A 25)), (1, .int (Int32.ofInt x)), (2, .int (Int32.ofInt y)), (3, .int (Int32.ofInt z))] [] _ 0 0
  have F : Fm [] [21, 1022, 1023] s s := fm_rf _ _ s
  have L6 : ∀ (n : Nat) (t : PS) (xv yv zv ch c : Int), Bd t → Fm [] [21, 1022, 1023] s t → PMJ t → (PNQ (bxC x y) (pfC s) (pfC t) z c ch) → ((xv = x ∧ yv = y ∧ zv = z) ∧ (0 ≤ ch ∧ ch ≤ c) ∧ (x ≤ c ∧ c ≤ y + 1)) → (128 - c : Int).toNat < n → (∀ (t' : PS) (ch' c' : Int), Bd t' → Fm [] [21, 1022, 1023] s t' → PMJ t' → (PNQ (bxC x y) (pfC s) (pfC t') z c' ch') → ((0 ≤ ch' ∧ ch' ≤ c') ∧ c' = y + 1) → WS k 68 [(0, .ref (A 25)), (1, .int (Int32.ofInt xv)), (2, .int (Int32.ofInt yv)), (3, .int (Int32.ofInt zv)), (4, .int (Int32.ofInt ch')), (5, .int (Int32.ofInt c'))] [] (Wd A dT t') 0 0) → WS k 6 [(0, .ref (A 25)), (1, .int (Int32.ofInt xv)), (2, .int (Int32.ofInt yv)), (3, .int (Int32.ofInt zv)), (4, .int (Int32.ofInt ch)), (5, .int (Int32.ofInt c))] [] (Wd A dT t) 0 0 := by
    intro n
    induction n with
    | zero =>
      intro t xv yv zv ch c I F jjPMJ hq hi hm kx
      exact absurd hm (Nat.not_lt_zero _)
    | succ n ih =>
      intro t xv yv zv ch c I F jjPMJ hq hi hm kx
      refine z_load X (x := c) (show cdA 29 6 = some (.iload 5, 2, 0, 0, 0) from rfl) (List.Mem.tail _ (List.Mem.tail _ (List.Mem.tail _ (List.Mem.tail _ (List.Mem.tail _ (List.Mem.head _)))))) ?_
      refine z_load_n X (x := yv) (show cdA 29 8 = some (.iload_n 2, 1, 0, 0, 0) from rfl) (List.Mem.tail _ (List.Mem.tail _ (List.Mem.head _))) ?_
      refine z_icmp_gt X (t := 68) (show cdA 29 9 = some (.if_icmp .gt 59, 3, 4, 0, 0) from rfl) (by decide) ⟨by first | exact oq_e001bc0d hi.2.2.1 p0.1 | omega, by first | exact oq_b50efd5d hi.2.2.2 p1.2 | omega⟩ ⟨by first | exact oq_b3df2c6f hi.1.2.1 p1.1 | omega, by first | exact oq_8093112e hi.1.2.1 p1.2 | omega⟩ (fun g1001 => ?_) (fun g1001 => ?_)
      ·
        refine WS_lv (lv := [(0, .ref (A 25)), (1, .int (Int32.ofInt xv)), (2, .int (Int32.ofInt yv)), (3, .int (Int32.ofInt zv)), (4, .int (Int32.ofInt ch)), (5, .int (Int32.ofInt c))]) (List.forall_mem_cons.mpr ⟨(List.Mem.head _), (List.forall_mem_cons.mpr ⟨(List.Mem.tail _ (List.Mem.head _)), (List.forall_mem_cons.mpr ⟨(List.Mem.tail _ (List.Mem.tail _ (List.Mem.head _))), (List.forall_mem_cons.mpr ⟨(List.Mem.tail _ (List.Mem.tail _ (List.Mem.tail _ (List.Mem.head _)))), (List.forall_mem_cons.mpr ⟨(List.Mem.tail _ (List.Mem.tail _ (List.Mem.tail _ (List.Mem.tail _ (List.Mem.head _))))), (List.forall_mem_cons.mpr ⟨(List.Mem.tail _ (List.Mem.tail _ (List.Mem.tail _ (List.Mem.tail _ (List.Mem.tail _ (List.Mem.head _)))))), (fun q h => absurd h List.not_mem_nil)⟩)⟩)⟩)⟩)⟩)⟩) ?_
        exact kx _ ch c I F jjPMJ hq (by first | exact ⟨And.intro (hi.2.1.1) (hi.2.1.2), oq_4ab5b7c2 hi.2.2.2 hi.1.2.1 g1001⟩ | omega)
      ·
        refine z_load X (x := c) (show cdA 29 12 = some (.iload 5, 2, 0, 0, 0) from rfl) (List.Mem.tail _ (List.Mem.tail _ (List.Mem.tail _ (List.Mem.tail _ (List.Mem.tail _ (List.Mem.head _)))))) ?_
        refine z_bipush X (show cdA 29 14 = some (.bipush 7, 2, 0, 0, 7) from rfl) ?_
        refine z_and7 X (show cdA 29 16 = some (.iand, 1, 0, 0, 0) from rfl) (by omega) ?_
        refine z_load_n X (x := xv) (show cdA 29 17 = some (.iload_n 1, 1, 0, 0, 0) from rfl) (List.Mem.tail _ (List.Mem.head _)) ?_
        refine z_bipush X (show cdA 29 18 = some (.bipush 7, 2, 0, 0, 7) from rfl) ?_
        refine z_and7 X (show cdA 29 20 = some (.iand, 1, 0, 0, 0) from rfl) (by omega) ?_
        refine z_icmp_lt X (t := 40) (show cdA 29 21 = some (.if_icmp .lt 19, 3, 2, 0, 0) from rfl) (by decide) ⟨by first | exact oq_e86162eb | omega, by first | exact oq_70086759 | omega⟩ ⟨by first | exact oq_e86162eb | omega, by first | exact oq_70086759 | omega⟩ (fun g1002 => ?_) (fun g1002 => ?_)
        ·
          refine z_const X (show cdA 29 40 = some (.iconst 0, 1, 0, 0, 0) from rfl) ?_
          refine z_store X (lv' := [(6, .int (Int32.ofInt 0)), (0, .ref (A 25)), (1, .int (Int32.ofInt xv)), (2, .int (Int32.ofInt yv)), (3, .int (Int32.ofInt zv)), (4, .int (Int32.ofInt ch)), (5, .int (Int32.ofInt c))]) (show cdA 29 41 = some (.istore 6, 2, 0, 0, 0) from rfl) (by decide) (fun _ h => h) ?_
          refine z_load X (x := 0) (show cdA 29 43 = some (.iload 6, 2, 0, 0, 0) from rfl) (List.Mem.head _) ?_
          refine z_if_eq X (t := 62) (show cdA 29 45 = some (.ifCond .eq 17, 3, 0, 0, 0) from rfl) (by decide) (by decide) (fun g1003 => ?_) (fun g1003 => ?_)
          ·
            refine z_inc X (x := c) (lv' := [(5, .int (Int32.ofInt (c + 1))), (6, .int (Int32.ofInt 0)), (0, .ref (A 25)), (1, .int (Int32.ofInt xv)), (2, .int (Int32.ofInt yv)), (3, .int (Int32.ofInt zv)), (4, .int (Int32.ofInt ch))]) (show cdA 29 62 = some (.iinc 5 1, 3, 0, 0, 0) from rfl) (by decide) (List.Mem.tail _ (List.Mem.tail _ (List.Mem.tail _ (List.Mem.tail _ (List.Mem.tail _ (List.Mem.tail _ (List.Mem.head _))))))) (fun _ h => h) ?_
            refine z_goto X (t := 6) (show cdA 29 65 = some (.goto (-59), 3, 0, 0, 0) from rfl) (by decide) ?_
            refine WS_lv (lv := [(0, .ref (A 25)), (1, .int (Int32.ofInt xv)), (2, .int (Int32.ofInt yv)), (3, .int (Int32.ofInt zv)), (4, .int (Int32.ofInt ch)), (5, .int (Int32.ofInt (c + 1)))]) (List.forall_mem_cons.mpr ⟨(List.Mem.tail _ (List.Mem.tail _ (List.Mem.head _))), (List.forall_mem_cons.mpr ⟨(List.Mem.tail _ (List.Mem.tail _ (List.Mem.tail _ (List.Mem.head _)))), (List.forall_mem_cons.mpr ⟨(List.Mem.tail _ (List.Mem.tail _ (List.Mem.tail _ (List.Mem.tail _ (List.Mem.head _))))), (List.forall_mem_cons.mpr ⟨(List.Mem.tail _ (List.Mem.tail _ (List.Mem.tail _ (List.Mem.tail _ (List.Mem.tail _ (List.Mem.head _)))))), (List.forall_mem_cons.mpr ⟨(List.Mem.tail _ (List.Mem.tail _ (List.Mem.tail _ (List.Mem.tail _ (List.Mem.tail _ (List.Mem.tail _ (List.Mem.head _))))))), (List.forall_mem_cons.mpr ⟨(List.Mem.head _), (fun q h => absurd h List.not_mem_nil)⟩)⟩)⟩)⟩)⟩)⟩) ?_
            exact ih _ xv yv zv ch (c + 1) I F jjPMJ (pnq_n hq (by omega) (fun q => by unfold bxC at q; omega)) (by first | exact ⟨And.intro (hi.1.1) (And.intro (hi.1.2.1) (hi.1.2.2)), And.intro (hi.2.1.1) (oq_03182e9e hi.2.1.2), oq_03182e9e hi.2.2.1, oq_667557f6 g1001 hi.1.2.1⟩ | omega) (by first | exact qk_me hm (by decide) (oq_e3e9adc4 g1001 hi.1.2.1 p1.2) | omega) kx
          ·
            refine z_aload_n X (x := A 25) (show cdA 29 48 = some (.aload_n 0, 1, 0, 0, 0) from rfl) (List.Mem.tail _ (List.Mem.head _)) ?_
            refine z_load X (x := c) (show cdA 29 49 = some (.iload 5, 2, 0, 0, 0) from rfl) (List.Mem.tail _ (List.Mem.tail _ (List.Mem.tail _ (List.Mem.tail _ (List.Mem.tail _ (List.Mem.tail _ (List.Mem.head _))))))) ?_
            refine z_load_n X (x := zv) (show cdA 29 51 = some (.iload_n 3, 1, 0, 0, 0) from rfl) (List.Mem.tail _ (List.Mem.tail _ (List.Mem.tail _ (List.Mem.tail _ (List.Mem.head _))))) ?_
            refine z_callV X 25 (rm := rmN 28) (As := [.int (Int32.ofInt c), .int (Int32.ofInt zv)]) (st := []) (show cdA 29 52 = some (.invokevirtual 36, 3, 28, 0, 0) from rfl) rfl (by decide) rfl (by rw [E.1, E.2.1, E.2.2.1]; exact c3_put3 G I jjPMJ (by first | exact ⟨oq_12a1f9e1 hi.2.2.1 p0.1, oq_8b3d94f6 g1001 hi.1.2.1 p1.2⟩ | omega) (by first | exact ⟨oq_65661d22 hi.1.2.2 p2.1, oq_4da978b7 hi.1.2.2 p2.2⟩ | omega)) ⟨by rw [E.2.2.2]; exact (show (rmN 28).frames + 1 ≤ (rmN 29).frames by decide), by rw [E.2.2.2]; exact (show 8 + (mNL (miB 28) + 11) + (rmN 28).locals ≤ (rmN 29).locals by decide), by rw [E.2.2.2]; exact (show 0 + (rmN 28).cells ≤ (rmN 29).cells by decide), by rw [E.2.2.2]; exact (show 0 + (rmN 28).slots ≤ (rmN 29).slots by decide)⟩ (Nat.le_of_ble_eq_true rfl) (fun vv s1004 hq => ?_) (fun ee s1004 hq => ?_)
            rotate_left
            · obtain ⟨Is1004, Fs1004, JPMJ_s1004, e1005, hv, hrs1004, hps1004⟩ := hq; cases hv
            obtain ⟨Is1004, Fs1004, JPMJ_s1004, e1005, hv, hrs1004, hps1004⟩ := hq
            cases hv
            have Gs1004 := fm_ts F Fs1004 (by decide) (by decide)
            show WS k 55 [(6, .int (Int32.ofInt 0)), (0, .ref (A 25)), (1, .int (Int32.ofInt xv)), (2, .int (Int32.ofInt yv)), (3, .int (Int32.ofInt zv)), (4, .int (Int32.ofInt ch)), (5, .int (Int32.ofInt c))] [.int (Int32.ofInt e1005)] (Wd A dT s1004) 0 0
            have hfc : pfC s (c : Int).toNat = e1005 := (pnq_g hq (by omega)).symm.trans hps1004.1.1.symm
            refine z_load_n X (x := zv) (show cdA 29 55 = some (.iload_n 3, 1, 0, 0, 0) from rfl) (List.Mem.tail _ (List.Mem.tail _ (List.Mem.tail _ (List.Mem.tail _ (List.Mem.head _))))) ?_
            refine z_icmp_eq X (t := 62) (show cdA 29 56 = some (.if_icmp .eq 6, 3, 0, 0, 0) from rfl) (by decide) hrs1004 ⟨by first | exact oq_709dc04f hi.1.2.2 p2.1 | omega, by first | exact oq_b2f566bc hi.1.2.2 p2.2 | omega⟩ (fun g1006 => ?_) (fun g1006 => ?_)
            ·
              refine z_inc X (x := c) (lv' := [(5, .int (Int32.ofInt (c + 1))), (6, .int (Int32.ofInt 0)), (0, .ref (A 25)), (1, .int (Int32.ofInt xv)), (2, .int (Int32.ofInt yv)), (3, .int (Int32.ofInt zv)), (4, .int (Int32.ofInt ch))]) (show cdA 29 62 = some (.iinc 5 1, 3, 0, 0, 0) from rfl) (by decide) (List.Mem.tail _ (List.Mem.tail _ (List.Mem.tail _ (List.Mem.tail _ (List.Mem.tail _ (List.Mem.tail _ (List.Mem.head _))))))) (fun _ h => h) ?_
              refine z_goto X (t := 6) (show cdA 29 65 = some (.goto (-59), 3, 0, 0, 0) from rfl) (by decide) ?_
              refine WS_lv (lv := [(0, .ref (A 25)), (1, .int (Int32.ofInt xv)), (2, .int (Int32.ofInt yv)), (3, .int (Int32.ofInt zv)), (4, .int (Int32.ofInt ch)), (5, .int (Int32.ofInt (c + 1)))]) (List.forall_mem_cons.mpr ⟨(List.Mem.tail _ (List.Mem.tail _ (List.Mem.head _))), (List.forall_mem_cons.mpr ⟨(List.Mem.tail _ (List.Mem.tail _ (List.Mem.tail _ (List.Mem.head _)))), (List.forall_mem_cons.mpr ⟨(List.Mem.tail _ (List.Mem.tail _ (List.Mem.tail _ (List.Mem.tail _ (List.Mem.head _))))), (List.forall_mem_cons.mpr ⟨(List.Mem.tail _ (List.Mem.tail _ (List.Mem.tail _ (List.Mem.tail _ (List.Mem.tail _ (List.Mem.head _)))))), (List.forall_mem_cons.mpr ⟨(List.Mem.tail _ (List.Mem.tail _ (List.Mem.tail _ (List.Mem.tail _ (List.Mem.tail _ (List.Mem.tail _ (List.Mem.head _))))))), (List.forall_mem_cons.mpr ⟨(List.Mem.head _), (fun q h => absurd h List.not_mem_nil)⟩)⟩)⟩)⟩)⟩)⟩) ?_
              exact ih _ xv yv zv ch (c + 1) Is1004 Gs1004 JPMJ_s1004 (pnq_y hq (by omega) (by unfold bxC; omega) (by rw [show z = zv by omega]; exact upf_upd hps1004.2) (by rw [i01_f (fun q => q (by rw [hfc]; omega))]; omega)) (by first | exact ⟨And.intro (hi.1.1) (And.intro (hi.1.2.1) (hi.1.2.2)), And.intro (hi.2.1.1) (oq_03182e9e hi.2.1.2), oq_03182e9e hi.2.2.1, oq_667557f6 g1001 hi.1.2.1⟩ | omega) (by first | exact qk_me hm (by decide) (oq_e3e9adc4 g1001 hi.1.2.1 p1.2) | omega) kx
            ·
              refine z_inc X (x := ch) (lv' := [(4, .int (Int32.ofInt (ch + 1))), (6, .int (Int32.ofInt 0)), (0, .ref (A 25)), (1, .int (Int32.ofInt xv)), (2, .int (Int32.ofInt yv)), (3, .int (Int32.ofInt zv)), (5, .int (Int32.ofInt c))]) (show cdA 29 59 = some (.iinc 4 1, 3, 0, 0, 0) from rfl) (by decide) (List.Mem.tail _ (List.Mem.tail _ (List.Mem.tail _ (List.Mem.tail _ (List.Mem.tail _ (List.Mem.head _)))))) (fun _ h => h) ?_
              refine z_inc X (x := c) (lv' := [(5, .int (Int32.ofInt (c + 1))), (4, .int (Int32.ofInt (ch + 1))), (6, .int (Int32.ofInt 0)), (0, .ref (A 25)), (1, .int (Int32.ofInt xv)), (2, .int (Int32.ofInt yv)), (3, .int (Int32.ofInt zv))]) (show cdA 29 62 = some (.iinc 5 1, 3, 0, 0, 0) from rfl) (by decide) (List.Mem.tail _ (List.Mem.tail _ (List.Mem.tail _ (List.Mem.tail _ (List.Mem.tail _ (List.Mem.tail _ (List.Mem.head _))))))) (fun _ h => h) ?_
              refine z_goto X (t := 6) (show cdA 29 65 = some (.goto (-59), 3, 0, 0, 0) from rfl) (by decide) ?_
              refine WS_lv (lv := [(0, .ref (A 25)), (1, .int (Int32.ofInt xv)), (2, .int (Int32.ofInt yv)), (3, .int (Int32.ofInt zv)), (4, .int (Int32.ofInt (ch + 1))), (5, .int (Int32.ofInt (c + 1)))]) (List.forall_mem_cons.mpr ⟨(List.Mem.tail _ (List.Mem.tail _ (List.Mem.tail _ (List.Mem.head _)))), (List.forall_mem_cons.mpr ⟨(List.Mem.tail _ (List.Mem.tail _ (List.Mem.tail _ (List.Mem.tail _ (List.Mem.head _))))), (List.forall_mem_cons.mpr ⟨(List.Mem.tail _ (List.Mem.tail _ (List.Mem.tail _ (List.Mem.tail _ (List.Mem.tail _ (List.Mem.head _)))))), (List.forall_mem_cons.mpr ⟨(List.Mem.tail _ (List.Mem.tail _ (List.Mem.tail _ (List.Mem.tail _ (List.Mem.tail _ (List.Mem.tail _ (List.Mem.head _))))))), (List.forall_mem_cons.mpr ⟨(List.Mem.tail _ (List.Mem.head _)), (List.forall_mem_cons.mpr ⟨(List.Mem.head _), (fun q h => absurd h List.not_mem_nil)⟩)⟩)⟩)⟩)⟩)⟩) ?_
              exact ih _ xv yv zv (ch + 1) (c + 1) Is1004 Gs1004 JPMJ_s1004 (pnq_y hq (by omega) (by unfold bxC; omega) (by rw [show z = zv by omega]; exact upf_upd hps1004.2) (by rw [i01_t (by rw [hfc]; omega)])) (by first | exact ⟨And.intro (hi.1.1) (And.intro (hi.1.2.1) (hi.1.2.2)), And.intro (oq_54f49eb5 hi.2.1.1) (oq_8d48a029 hi.2.1.2), oq_03182e9e hi.2.2.1, oq_667557f6 g1001 hi.1.2.1⟩ | omega) (by first | exact qk_me hm (by decide) (oq_e3e9adc4 g1001 hi.1.2.1 p1.2) | omega) kx
        ·
          refine z_load X (x := c) (show cdA 29 24 = some (.iload 5, 2, 0, 0, 0) from rfl) (List.Mem.tail _ (List.Mem.tail _ (List.Mem.tail _ (List.Mem.tail _ (List.Mem.tail _ (List.Mem.head _)))))) ?_
          refine z_bipush X (show cdA 29 26 = some (.bipush 7, 2, 0, 0, 7) from rfl) ?_
          refine z_and7 X (show cdA 29 28 = some (.iand, 1, 0, 0, 0) from rfl) (by omega) ?_
          refine z_load_n X (x := yv) (show cdA 29 29 = some (.iload_n 2, 1, 0, 0, 0) from rfl) (List.Mem.tail _ (List.Mem.tail _ (List.Mem.head _))) ?_
          refine z_bipush X (show cdA 29 30 = some (.bipush 7, 2, 0, 0, 7) from rfl) ?_
          refine z_and7 X (show cdA 29 32 = some (.iand, 1, 0, 0, 0) from rfl) (by omega) ?_
          refine z_icmp_gt X (t := 40) (show cdA 29 33 = some (.if_icmp .gt 7, 3, 4, 0, 0) from rfl) (by decide) ⟨by first | exact oq_e86162eb | omega, by first | exact oq_70086759 | omega⟩ ⟨by first | exact oq_e86162eb | omega, by first | exact oq_70086759 | omega⟩ (fun g1007 => ?_) (fun g1007 => ?_)
          ·
            refine z_const X (show cdA 29 40 = some (.iconst 0, 1, 0, 0, 0) from rfl) ?_
            refine z_store X (lv' := [(6, .int (Int32.ofInt 0)), (0, .ref (A 25)), (1, .int (Int32.ofInt xv)), (2, .int (Int32.ofInt yv)), (3, .int (Int32.ofInt zv)), (4, .int (Int32.ofInt ch)), (5, .int (Int32.ofInt c))]) (show cdA 29 41 = some (.istore 6, 2, 0, 0, 0) from rfl) (by decide) (fun _ h => h) ?_
            refine z_load X (x := 0) (show cdA 29 43 = some (.iload 6, 2, 0, 0, 0) from rfl) (List.Mem.head _) ?_
            refine z_if_eq X (t := 62) (show cdA 29 45 = some (.ifCond .eq 17, 3, 0, 0, 0) from rfl) (by decide) (by decide) (fun g1008 => ?_) (fun g1008 => ?_)
            ·
              refine z_inc X (x := c) (lv' := [(5, .int (Int32.ofInt (c + 1))), (6, .int (Int32.ofInt 0)), (0, .ref (A 25)), (1, .int (Int32.ofInt xv)), (2, .int (Int32.ofInt yv)), (3, .int (Int32.ofInt zv)), (4, .int (Int32.ofInt ch))]) (show cdA 29 62 = some (.iinc 5 1, 3, 0, 0, 0) from rfl) (by decide) (List.Mem.tail _ (List.Mem.tail _ (List.Mem.tail _ (List.Mem.tail _ (List.Mem.tail _ (List.Mem.tail _ (List.Mem.head _))))))) (fun _ h => h) ?_
              refine z_goto X (t := 6) (show cdA 29 65 = some (.goto (-59), 3, 0, 0, 0) from rfl) (by decide) ?_
              refine WS_lv (lv := [(0, .ref (A 25)), (1, .int (Int32.ofInt xv)), (2, .int (Int32.ofInt yv)), (3, .int (Int32.ofInt zv)), (4, .int (Int32.ofInt ch)), (5, .int (Int32.ofInt (c + 1)))]) (List.forall_mem_cons.mpr ⟨(List.Mem.tail _ (List.Mem.tail _ (List.Mem.head _))), (List.forall_mem_cons.mpr ⟨(List.Mem.tail _ (List.Mem.tail _ (List.Mem.tail _ (List.Mem.head _)))), (List.forall_mem_cons.mpr ⟨(List.Mem.tail _ (List.Mem.tail _ (List.Mem.tail _ (List.Mem.tail _ (List.Mem.head _))))), (List.forall_mem_cons.mpr ⟨(List.Mem.tail _ (List.Mem.tail _ (List.Mem.tail _ (List.Mem.tail _ (List.Mem.tail _ (List.Mem.head _)))))), (List.forall_mem_cons.mpr ⟨(List.Mem.tail _ (List.Mem.tail _ (List.Mem.tail _ (List.Mem.tail _ (List.Mem.tail _ (List.Mem.tail _ (List.Mem.head _))))))), (List.forall_mem_cons.mpr ⟨(List.Mem.head _), (fun q h => absurd h List.not_mem_nil)⟩)⟩)⟩)⟩)⟩)⟩) ?_
              exact ih _ xv yv zv ch (c + 1) I F jjPMJ (pnq_n hq (by omega) (fun q => by unfold bxC at q; omega)) (by first | exact ⟨And.intro (hi.1.1) (And.intro (hi.1.2.1) (hi.1.2.2)), And.intro (hi.2.1.1) (oq_03182e9e hi.2.1.2), oq_03182e9e hi.2.2.1, oq_667557f6 g1001 hi.1.2.1⟩ | omega) (by first | exact qk_me hm (by decide) (oq_e3e9adc4 g1001 hi.1.2.1 p1.2) | omega) kx
            ·
              refine z_aload_n X (x := A 25) (show cdA 29 48 = some (.aload_n 0, 1, 0, 0, 0) from rfl) (List.Mem.tail _ (List.Mem.head _)) ?_
              refine z_load X (x := c) (show cdA 29 49 = some (.iload 5, 2, 0, 0, 0) from rfl) (List.Mem.tail _ (List.Mem.tail _ (List.Mem.tail _ (List.Mem.tail _ (List.Mem.tail _ (List.Mem.tail _ (List.Mem.head _))))))) ?_
              refine z_load_n X (x := zv) (show cdA 29 51 = some (.iload_n 3, 1, 0, 0, 0) from rfl) (List.Mem.tail _ (List.Mem.tail _ (List.Mem.tail _ (List.Mem.tail _ (List.Mem.head _))))) ?_
              refine z_callV X 25 (rm := rmN 28) (As := [.int (Int32.ofInt c), .int (Int32.ofInt zv)]) (st := []) (show cdA 29 52 = some (.invokevirtual 36, 3, 28, 0, 0) from rfl) rfl (by decide) rfl (by rw [E.1, E.2.1, E.2.2.1]; exact c3_put3 G I jjPMJ (by first | exact ⟨oq_12a1f9e1 hi.2.2.1 p0.1, oq_8b3d94f6 g1001 hi.1.2.1 p1.2⟩ | omega) (by first | exact ⟨oq_65661d22 hi.1.2.2 p2.1, oq_4da978b7 hi.1.2.2 p2.2⟩ | omega)) ⟨by rw [E.2.2.2]; exact (show (rmN 28).frames + 1 ≤ (rmN 29).frames by decide), by rw [E.2.2.2]; exact (show 8 + (mNL (miB 28) + 11) + (rmN 28).locals ≤ (rmN 29).locals by decide), by rw [E.2.2.2]; exact (show 0 + (rmN 28).cells ≤ (rmN 29).cells by decide), by rw [E.2.2.2]; exact (show 0 + (rmN 28).slots ≤ (rmN 29).slots by decide)⟩ (Nat.le_of_ble_eq_true rfl) (fun vv s1009 hq => ?_) (fun ee s1009 hq => ?_)
              rotate_left
              · obtain ⟨Is1009, Fs1009, JPMJ_s1009, e1010, hv, hrs1009, hps1009⟩ := hq; cases hv
              obtain ⟨Is1009, Fs1009, JPMJ_s1009, e1010, hv, hrs1009, hps1009⟩ := hq
              cases hv
              have Gs1009 := fm_ts F Fs1009 (by decide) (by decide)
              show WS k 55 [(6, .int (Int32.ofInt 0)), (0, .ref (A 25)), (1, .int (Int32.ofInt xv)), (2, .int (Int32.ofInt yv)), (3, .int (Int32.ofInt zv)), (4, .int (Int32.ofInt ch)), (5, .int (Int32.ofInt c))] [.int (Int32.ofInt e1010)] (Wd A dT s1009) 0 0
              have hfc : pfC s (c : Int).toNat = e1010 := (pnq_g hq (by omega)).symm.trans hps1009.1.1.symm
              refine z_load_n X (x := zv) (show cdA 29 55 = some (.iload_n 3, 1, 0, 0, 0) from rfl) (List.Mem.tail _ (List.Mem.tail _ (List.Mem.tail _ (List.Mem.tail _ (List.Mem.head _))))) ?_
              refine z_icmp_eq X (t := 62) (show cdA 29 56 = some (.if_icmp .eq 6, 3, 0, 0, 0) from rfl) (by decide) hrs1009 ⟨by first | exact oq_709dc04f hi.1.2.2 p2.1 | omega, by first | exact oq_b2f566bc hi.1.2.2 p2.2 | omega⟩ (fun g1011 => ?_) (fun g1011 => ?_)
              ·
                refine z_inc X (x := c) (lv' := [(5, .int (Int32.ofInt (c + 1))), (6, .int (Int32.ofInt 0)), (0, .ref (A 25)), (1, .int (Int32.ofInt xv)), (2, .int (Int32.ofInt yv)), (3, .int (Int32.ofInt zv)), (4, .int (Int32.ofInt ch))]) (show cdA 29 62 = some (.iinc 5 1, 3, 0, 0, 0) from rfl) (by decide) (List.Mem.tail _ (List.Mem.tail _ (List.Mem.tail _ (List.Mem.tail _ (List.Mem.tail _ (List.Mem.tail _ (List.Mem.head _))))))) (fun _ h => h) ?_
                refine z_goto X (t := 6) (show cdA 29 65 = some (.goto (-59), 3, 0, 0, 0) from rfl) (by decide) ?_
                refine WS_lv (lv := [(0, .ref (A 25)), (1, .int (Int32.ofInt xv)), (2, .int (Int32.ofInt yv)), (3, .int (Int32.ofInt zv)), (4, .int (Int32.ofInt ch)), (5, .int (Int32.ofInt (c + 1)))]) (List.forall_mem_cons.mpr ⟨(List.Mem.tail _ (List.Mem.tail _ (List.Mem.head _))), (List.forall_mem_cons.mpr ⟨(List.Mem.tail _ (List.Mem.tail _ (List.Mem.tail _ (List.Mem.head _)))), (List.forall_mem_cons.mpr ⟨(List.Mem.tail _ (List.Mem.tail _ (List.Mem.tail _ (List.Mem.tail _ (List.Mem.head _))))), (List.forall_mem_cons.mpr ⟨(List.Mem.tail _ (List.Mem.tail _ (List.Mem.tail _ (List.Mem.tail _ (List.Mem.tail _ (List.Mem.head _)))))), (List.forall_mem_cons.mpr ⟨(List.Mem.tail _ (List.Mem.tail _ (List.Mem.tail _ (List.Mem.tail _ (List.Mem.tail _ (List.Mem.tail _ (List.Mem.head _))))))), (List.forall_mem_cons.mpr ⟨(List.Mem.head _), (fun q h => absurd h List.not_mem_nil)⟩)⟩)⟩)⟩)⟩)⟩) ?_
                exact ih _ xv yv zv ch (c + 1) Is1009 Gs1009 JPMJ_s1009 (pnq_y hq (by omega) (by unfold bxC; omega) (by rw [show z = zv by omega]; exact upf_upd hps1009.2) (by rw [i01_f (fun q => q (by rw [hfc]; omega))]; omega)) (by first | exact ⟨And.intro (hi.1.1) (And.intro (hi.1.2.1) (hi.1.2.2)), And.intro (hi.2.1.1) (oq_03182e9e hi.2.1.2), oq_03182e9e hi.2.2.1, oq_667557f6 g1001 hi.1.2.1⟩ | omega) (by first | exact qk_me hm (by decide) (oq_e3e9adc4 g1001 hi.1.2.1 p1.2) | omega) kx
              ·
                refine z_inc X (x := ch) (lv' := [(4, .int (Int32.ofInt (ch + 1))), (6, .int (Int32.ofInt 0)), (0, .ref (A 25)), (1, .int (Int32.ofInt xv)), (2, .int (Int32.ofInt yv)), (3, .int (Int32.ofInt zv)), (5, .int (Int32.ofInt c))]) (show cdA 29 59 = some (.iinc 4 1, 3, 0, 0, 0) from rfl) (by decide) (List.Mem.tail _ (List.Mem.tail _ (List.Mem.tail _ (List.Mem.tail _ (List.Mem.tail _ (List.Mem.head _)))))) (fun _ h => h) ?_
                refine z_inc X (x := c) (lv' := [(5, .int (Int32.ofInt (c + 1))), (4, .int (Int32.ofInt (ch + 1))), (6, .int (Int32.ofInt 0)), (0, .ref (A 25)), (1, .int (Int32.ofInt xv)), (2, .int (Int32.ofInt yv)), (3, .int (Int32.ofInt zv))]) (show cdA 29 62 = some (.iinc 5 1, 3, 0, 0, 0) from rfl) (by decide) (List.Mem.tail _ (List.Mem.tail _ (List.Mem.tail _ (List.Mem.tail _ (List.Mem.tail _ (List.Mem.tail _ (List.Mem.head _))))))) (fun _ h => h) ?_
                refine z_goto X (t := 6) (show cdA 29 65 = some (.goto (-59), 3, 0, 0, 0) from rfl) (by decide) ?_
                refine WS_lv (lv := [(0, .ref (A 25)), (1, .int (Int32.ofInt xv)), (2, .int (Int32.ofInt yv)), (3, .int (Int32.ofInt zv)), (4, .int (Int32.ofInt (ch + 1))), (5, .int (Int32.ofInt (c + 1)))]) (List.forall_mem_cons.mpr ⟨(List.Mem.tail _ (List.Mem.tail _ (List.Mem.tail _ (List.Mem.head _)))), (List.forall_mem_cons.mpr ⟨(List.Mem.tail _ (List.Mem.tail _ (List.Mem.tail _ (List.Mem.tail _ (List.Mem.head _))))), (List.forall_mem_cons.mpr ⟨(List.Mem.tail _ (List.Mem.tail _ (List.Mem.tail _ (List.Mem.tail _ (List.Mem.tail _ (List.Mem.head _)))))), (List.forall_mem_cons.mpr ⟨(List.Mem.tail _ (List.Mem.tail _ (List.Mem.tail _ (List.Mem.tail _ (List.Mem.tail _ (List.Mem.tail _ (List.Mem.head _))))))), (List.forall_mem_cons.mpr ⟨(List.Mem.tail _ (List.Mem.head _)), (List.forall_mem_cons.mpr ⟨(List.Mem.head _), (fun q h => absurd h List.not_mem_nil)⟩)⟩)⟩)⟩)⟩)⟩) ?_
                exact ih _ xv yv zv (ch + 1) (c + 1) Is1009 Gs1009 JPMJ_s1009 (pnq_y hq (by omega) (by unfold bxC; omega) (by rw [show z = zv by omega]; exact upf_upd hps1009.2) (by rw [i01_t (by rw [hfc]; omega)])) (by first | exact ⟨And.intro (hi.1.1) (And.intro (hi.1.2.1) (hi.1.2.2)), And.intro (oq_54f49eb5 hi.2.1.1) (oq_8d48a029 hi.2.1.2), oq_03182e9e hi.2.2.1, oq_667557f6 g1001 hi.1.2.1⟩ | omega) (by first | exact qk_me hm (by decide) (oq_e3e9adc4 g1001 hi.1.2.1 p1.2) | omega) kx
          ·
            refine z_const X (show cdA 29 36 = some (.iconst 1, 1, 0, 0, 0) from rfl) ?_
            refine z_goto X (t := 41) (show cdA 29 37 = some (.goto 4, 3, 0, 0, 0) from rfl) (by decide) ?_
            refine z_store X (lv' := [(6, .int (Int32.ofInt 1)), (0, .ref (A 25)), (1, .int (Int32.ofInt xv)), (2, .int (Int32.ofInt yv)), (3, .int (Int32.ofInt zv)), (4, .int (Int32.ofInt ch)), (5, .int (Int32.ofInt c))]) (show cdA 29 41 = some (.istore 6, 2, 0, 0, 0) from rfl) (by decide) (fun _ h => h) ?_
            refine z_load X (x := 1) (show cdA 29 43 = some (.iload 6, 2, 0, 0, 0) from rfl) (List.Mem.head _) ?_
            refine z_if_eq X (t := 62) (show cdA 29 45 = some (.ifCond .eq 17, 3, 0, 0, 0) from rfl) (by decide) (by decide) (fun g1012 => ?_) (fun g1012 => ?_)
            ·
              refine z_inc X (x := c) (lv' := [(5, .int (Int32.ofInt (c + 1))), (6, .int (Int32.ofInt 1)), (0, .ref (A 25)), (1, .int (Int32.ofInt xv)), (2, .int (Int32.ofInt yv)), (3, .int (Int32.ofInt zv)), (4, .int (Int32.ofInt ch))]) (show cdA 29 62 = some (.iinc 5 1, 3, 0, 0, 0) from rfl) (by decide) (List.Mem.tail _ (List.Mem.tail _ (List.Mem.tail _ (List.Mem.tail _ (List.Mem.tail _ (List.Mem.tail _ (List.Mem.head _))))))) (fun _ h => h) ?_
              refine z_goto X (t := 6) (show cdA 29 65 = some (.goto (-59), 3, 0, 0, 0) from rfl) (by decide) ?_
              refine WS_lv (lv := [(0, .ref (A 25)), (1, .int (Int32.ofInt xv)), (2, .int (Int32.ofInt yv)), (3, .int (Int32.ofInt zv)), (4, .int (Int32.ofInt ch)), (5, .int (Int32.ofInt (c + 1)))]) (List.forall_mem_cons.mpr ⟨(List.Mem.tail _ (List.Mem.tail _ (List.Mem.head _))), (List.forall_mem_cons.mpr ⟨(List.Mem.tail _ (List.Mem.tail _ (List.Mem.tail _ (List.Mem.head _)))), (List.forall_mem_cons.mpr ⟨(List.Mem.tail _ (List.Mem.tail _ (List.Mem.tail _ (List.Mem.tail _ (List.Mem.head _))))), (List.forall_mem_cons.mpr ⟨(List.Mem.tail _ (List.Mem.tail _ (List.Mem.tail _ (List.Mem.tail _ (List.Mem.tail _ (List.Mem.head _)))))), (List.forall_mem_cons.mpr ⟨(List.Mem.tail _ (List.Mem.tail _ (List.Mem.tail _ (List.Mem.tail _ (List.Mem.tail _ (List.Mem.tail _ (List.Mem.head _))))))), (List.forall_mem_cons.mpr ⟨(List.Mem.head _), (fun q h => absurd h List.not_mem_nil)⟩)⟩)⟩)⟩)⟩)⟩) ?_
              exact ih _ xv yv zv ch (c + 1) I F jjPMJ (pnq_n hq (by omega) (fun q => by unfold bxC at q; omega)) (by first | exact ⟨And.intro (hi.1.1) (And.intro (hi.1.2.1) (hi.1.2.2)), And.intro (hi.2.1.1) (oq_03182e9e hi.2.1.2), oq_03182e9e hi.2.2.1, oq_667557f6 g1001 hi.1.2.1⟩ | omega) (by first | exact qk_me hm (by decide) (oq_e3e9adc4 g1001 hi.1.2.1 p1.2) | omega) kx
            ·
              refine z_aload_n X (x := A 25) (show cdA 29 48 = some (.aload_n 0, 1, 0, 0, 0) from rfl) (List.Mem.tail _ (List.Mem.head _)) ?_
              refine z_load X (x := c) (show cdA 29 49 = some (.iload 5, 2, 0, 0, 0) from rfl) (List.Mem.tail _ (List.Mem.tail _ (List.Mem.tail _ (List.Mem.tail _ (List.Mem.tail _ (List.Mem.tail _ (List.Mem.head _))))))) ?_
              refine z_load_n X (x := zv) (show cdA 29 51 = some (.iload_n 3, 1, 0, 0, 0) from rfl) (List.Mem.tail _ (List.Mem.tail _ (List.Mem.tail _ (List.Mem.tail _ (List.Mem.head _))))) ?_
              refine z_callV X 25 (rm := rmN 28) (As := [.int (Int32.ofInt c), .int (Int32.ofInt zv)]) (st := []) (show cdA 29 52 = some (.invokevirtual 36, 3, 28, 0, 0) from rfl) rfl (by decide) rfl (by rw [E.1, E.2.1, E.2.2.1]; exact c3_put3 G I jjPMJ (by first | exact ⟨oq_12a1f9e1 hi.2.2.1 p0.1, oq_8b3d94f6 g1001 hi.1.2.1 p1.2⟩ | omega) (by first | exact ⟨oq_65661d22 hi.1.2.2 p2.1, oq_4da978b7 hi.1.2.2 p2.2⟩ | omega)) ⟨by rw [E.2.2.2]; exact (show (rmN 28).frames + 1 ≤ (rmN 29).frames by decide), by rw [E.2.2.2]; exact (show 8 + (mNL (miB 28) + 11) + (rmN 28).locals ≤ (rmN 29).locals by decide), by rw [E.2.2.2]; exact (show 0 + (rmN 28).cells ≤ (rmN 29).cells by decide), by rw [E.2.2.2]; exact (show 0 + (rmN 28).slots ≤ (rmN 29).slots by decide)⟩ (Nat.le_of_ble_eq_true rfl) (fun vv s1013 hq => ?_) (fun ee s1013 hq => ?_)
              rotate_left
              · obtain ⟨Is1013, Fs1013, JPMJ_s1013, e1014, hv, hrs1013, hps1013⟩ := hq; cases hv
              obtain ⟨Is1013, Fs1013, JPMJ_s1013, e1014, hv, hrs1013, hps1013⟩ := hq
              cases hv
              have Gs1013 := fm_ts F Fs1013 (by decide) (by decide)
              show WS k 55 [(6, .int (Int32.ofInt 1)), (0, .ref (A 25)), (1, .int (Int32.ofInt xv)), (2, .int (Int32.ofInt yv)), (3, .int (Int32.ofInt zv)), (4, .int (Int32.ofInt ch)), (5, .int (Int32.ofInt c))] [.int (Int32.ofInt e1014)] (Wd A dT s1013) 0 0
              have hfc : pfC s (c : Int).toNat = e1014 := (pnq_g hq (by omega)).symm.trans hps1013.1.1.symm
              refine z_load_n X (x := zv) (show cdA 29 55 = some (.iload_n 3, 1, 0, 0, 0) from rfl) (List.Mem.tail _ (List.Mem.tail _ (List.Mem.tail _ (List.Mem.tail _ (List.Mem.head _))))) ?_
              refine z_icmp_eq X (t := 62) (show cdA 29 56 = some (.if_icmp .eq 6, 3, 0, 0, 0) from rfl) (by decide) hrs1013 ⟨by first | exact oq_709dc04f hi.1.2.2 p2.1 | omega, by first | exact oq_b2f566bc hi.1.2.2 p2.2 | omega⟩ (fun g1015 => ?_) (fun g1015 => ?_)
              ·
                refine z_inc X (x := c) (lv' := [(5, .int (Int32.ofInt (c + 1))), (6, .int (Int32.ofInt 1)), (0, .ref (A 25)), (1, .int (Int32.ofInt xv)), (2, .int (Int32.ofInt yv)), (3, .int (Int32.ofInt zv)), (4, .int (Int32.ofInt ch))]) (show cdA 29 62 = some (.iinc 5 1, 3, 0, 0, 0) from rfl) (by decide) (List.Mem.tail _ (List.Mem.tail _ (List.Mem.tail _ (List.Mem.tail _ (List.Mem.tail _ (List.Mem.tail _ (List.Mem.head _))))))) (fun _ h => h) ?_
                refine z_goto X (t := 6) (show cdA 29 65 = some (.goto (-59), 3, 0, 0, 0) from rfl) (by decide) ?_
                refine WS_lv (lv := [(0, .ref (A 25)), (1, .int (Int32.ofInt xv)), (2, .int (Int32.ofInt yv)), (3, .int (Int32.ofInt zv)), (4, .int (Int32.ofInt ch)), (5, .int (Int32.ofInt (c + 1)))]) (List.forall_mem_cons.mpr ⟨(List.Mem.tail _ (List.Mem.tail _ (List.Mem.head _))), (List.forall_mem_cons.mpr ⟨(List.Mem.tail _ (List.Mem.tail _ (List.Mem.tail _ (List.Mem.head _)))), (List.forall_mem_cons.mpr ⟨(List.Mem.tail _ (List.Mem.tail _ (List.Mem.tail _ (List.Mem.tail _ (List.Mem.head _))))), (List.forall_mem_cons.mpr ⟨(List.Mem.tail _ (List.Mem.tail _ (List.Mem.tail _ (List.Mem.tail _ (List.Mem.tail _ (List.Mem.head _)))))), (List.forall_mem_cons.mpr ⟨(List.Mem.tail _ (List.Mem.tail _ (List.Mem.tail _ (List.Mem.tail _ (List.Mem.tail _ (List.Mem.tail _ (List.Mem.head _))))))), (List.forall_mem_cons.mpr ⟨(List.Mem.head _), (fun q h => absurd h List.not_mem_nil)⟩)⟩)⟩)⟩)⟩)⟩) ?_
                exact ih _ xv yv zv ch (c + 1) Is1013 Gs1013 JPMJ_s1013 (pnq_y hq (by omega) (by unfold bxC; omega) (by rw [show z = zv by omega]; exact upf_upd hps1013.2) (by rw [i01_f (fun q => q (by rw [hfc]; omega))]; omega)) (by first | exact ⟨And.intro (hi.1.1) (And.intro (hi.1.2.1) (hi.1.2.2)), And.intro (hi.2.1.1) (oq_03182e9e hi.2.1.2), oq_03182e9e hi.2.2.1, oq_667557f6 g1001 hi.1.2.1⟩ | omega) (by first | exact qk_me hm (by decide) (oq_e3e9adc4 g1001 hi.1.2.1 p1.2) | omega) kx
              ·
                refine z_inc X (x := ch) (lv' := [(4, .int (Int32.ofInt (ch + 1))), (6, .int (Int32.ofInt 1)), (0, .ref (A 25)), (1, .int (Int32.ofInt xv)), (2, .int (Int32.ofInt yv)), (3, .int (Int32.ofInt zv)), (5, .int (Int32.ofInt c))]) (show cdA 29 59 = some (.iinc 4 1, 3, 0, 0, 0) from rfl) (by decide) (List.Mem.tail _ (List.Mem.tail _ (List.Mem.tail _ (List.Mem.tail _ (List.Mem.tail _ (List.Mem.head _)))))) (fun _ h => h) ?_
                refine z_inc X (x := c) (lv' := [(5, .int (Int32.ofInt (c + 1))), (4, .int (Int32.ofInt (ch + 1))), (6, .int (Int32.ofInt 1)), (0, .ref (A 25)), (1, .int (Int32.ofInt xv)), (2, .int (Int32.ofInt yv)), (3, .int (Int32.ofInt zv))]) (show cdA 29 62 = some (.iinc 5 1, 3, 0, 0, 0) from rfl) (by decide) (List.Mem.tail _ (List.Mem.tail _ (List.Mem.tail _ (List.Mem.tail _ (List.Mem.tail _ (List.Mem.tail _ (List.Mem.head _))))))) (fun _ h => h) ?_
                refine z_goto X (t := 6) (show cdA 29 65 = some (.goto (-59), 3, 0, 0, 0) from rfl) (by decide) ?_
                refine WS_lv (lv := [(0, .ref (A 25)), (1, .int (Int32.ofInt xv)), (2, .int (Int32.ofInt yv)), (3, .int (Int32.ofInt zv)), (4, .int (Int32.ofInt (ch + 1))), (5, .int (Int32.ofInt (c + 1)))]) (List.forall_mem_cons.mpr ⟨(List.Mem.tail _ (List.Mem.tail _ (List.Mem.tail _ (List.Mem.head _)))), (List.forall_mem_cons.mpr ⟨(List.Mem.tail _ (List.Mem.tail _ (List.Mem.tail _ (List.Mem.tail _ (List.Mem.head _))))), (List.forall_mem_cons.mpr ⟨(List.Mem.tail _ (List.Mem.tail _ (List.Mem.tail _ (List.Mem.tail _ (List.Mem.tail _ (List.Mem.head _)))))), (List.forall_mem_cons.mpr ⟨(List.Mem.tail _ (List.Mem.tail _ (List.Mem.tail _ (List.Mem.tail _ (List.Mem.tail _ (List.Mem.tail _ (List.Mem.head _))))))), (List.forall_mem_cons.mpr ⟨(List.Mem.tail _ (List.Mem.head _)), (List.forall_mem_cons.mpr ⟨(List.Mem.head _), (fun q h => absurd h List.not_mem_nil)⟩)⟩)⟩)⟩)⟩)⟩) ?_
                exact ih _ xv yv zv (ch + 1) (c + 1) Is1013 Gs1013 JPMJ_s1013 (pnq_y hq (by omega) (by unfold bxC; omega) (by rw [show z = zv by omega]; exact upf_upd hps1013.2) (by rw [i01_t (by rw [hfc]; omega)])) (by first | exact ⟨And.intro (hi.1.1) (And.intro (hi.1.2.1) (hi.1.2.2)), And.intro (oq_54f49eb5 hi.2.1.1) (oq_8d48a029 hi.2.1.2), oq_03182e9e hi.2.2.1, oq_667557f6 g1001 hi.1.2.1⟩ | omega) (by first | exact qk_me hm (by decide) (oq_e3e9adc4 g1001 hi.1.2.1 p1.2) | omega) kx
  refine z_const X (show cdA 29 0 = some (.iconst 0, 1, 0, 0, 0) from rfl) ?_
  refine z_store X (lv' := [(4, .int (Int32.ofInt 0)), (0, .ref (A 25)), (1, .int (Int32.ofInt x)), (2, .int (Int32.ofInt y)), (3, .int (Int32.ofInt z))]) (show cdA 29 1 = some (.istore 4, 2, 0, 0, 0) from rfl) (by decide) (fun _ h => h) ?_
  refine z_load_n X (x := x) (show cdA 29 3 = some (.iload_n 1, 1, 0, 0, 0) from rfl) (List.Mem.tail _ (List.Mem.tail _ (List.Mem.head _))) ?_
  refine z_store X (lv' := [(5, .int (Int32.ofInt x)), (4, .int (Int32.ofInt 0)), (0, .ref (A 25)), (1, .int (Int32.ofInt x)), (2, .int (Int32.ofInt y)), (3, .int (Int32.ofInt z))]) (show cdA 29 4 = some (.istore 5, 2, 0, 0, 0) from rfl) (by decide) (fun _ h => h) ?_
  refine WS_lv (lv := [(0, .ref (A 25)), (1, .int (Int32.ofInt x)), (2, .int (Int32.ofInt y)), (3, .int (Int32.ofInt z)), (4, .int (Int32.ofInt 0)), (5, .int (Int32.ofInt x))]) (List.forall_mem_cons.mpr ⟨(List.Mem.tail _ (List.Mem.tail _ (List.Mem.head _))), (List.forall_mem_cons.mpr ⟨(List.Mem.tail _ (List.Mem.tail _ (List.Mem.tail _ (List.Mem.head _)))), (List.forall_mem_cons.mpr ⟨(List.Mem.tail _ (List.Mem.tail _ (List.Mem.tail _ (List.Mem.tail _ (List.Mem.head _))))), (List.forall_mem_cons.mpr ⟨(List.Mem.tail _ (List.Mem.tail _ (List.Mem.tail _ (List.Mem.tail _ (List.Mem.tail _ (List.Mem.head _)))))), (List.forall_mem_cons.mpr ⟨(List.Mem.tail _ (List.Mem.head _)), (List.forall_mem_cons.mpr ⟨(List.Mem.head _), (fun q h => absurd h List.not_mem_nil)⟩)⟩)⟩)⟩)⟩)⟩) ?_
  refine L6 ((128 - x : Int).toNat + 1) s x y z 0 x I F jPMJ (pnq_0 (by omega) (fun c h0 h1 q => by unfold bxC at q; omega)) (by first | exact ⟨And.intro (by decide) (And.intro (by decide) (by decide)), And.intro (by decide) (p0.1), by decide, oq_03182e9e p3⟩ | omega) (Nat.lt_succ_self _) ?_
  intro s1 x2 x3 Is1 Fs1 JPMJ_s1 Qs1 hs1
  refine z_load X (x := x2) (show cdA 29 68 = some (.iload 4, 2, 0, 0, 0) from rfl) (List.Mem.tail _ (List.Mem.tail _ (List.Mem.tail _ (List.Mem.tail _ (List.Mem.head _))))) ?_
  exact w_iret X.1 q hRt rfl (ax_d X (show cdA 29 70 = some (.ireturn, 1, 0, 0, 0) from rfl)) (Nat.zero_le _) (Nat.zero_le _) ⟨_, rfl, Is1, Fs1, JPMJ_s1, x2, rfl, ⟨by first | exact oq_fa4e5087 hs1.1.1 | omega, by first | exact oq_630dfc21 hs1.1.2 hs1.2 p1.2 | omega⟩, (pnq_z Qs1 (by omega) (by omega) (fun c hc q => by unfold bxC at q; omega))⟩
set_option maxRecDepth 4000 in
theorem cs_paint6 (G : GX l s0 D tys a0 dT) (I : Bd s) (jPMJ : PMJ s) {u v w : Int} (p0 : rng u) (p1 : rng v) (p2 : rng w) : CT l s0 D A dT 144 (rmN 144) [.ref (A 0), .int (Int32.ofInt u), .int (Int32.ofInt v), .int (Int32.ofInt w)] s (fun o t => Bd t ∧ Fm [] [21, 1022, 1023] s t ∧ PMJ t ∧ ((∃ e, o = .inl (some (.int (Int32.ofInt e))) ∧ rng e ∧ ((0 ≤ u ∧ u ≤ 127 ∧ 0 ≤ v ∧ v ≤ 127) ∧ (-1 ≤ w ∧ w ≤ 7) ∧ u / 64 = v / 64 ∧ u % 8 ≤ v % 8 ∧ u / 8 % 8 ≤ v / 8 % 8 ∧ PNQ (bxC u v) (pfC s) (pfC t) w 128 e)) ∨ ∃ x : Nat, o = .inr (exN x) ∧ (((x = 2 ∧ (u < 0 ∨ 127 < u ∨ v < 0 ∨ 127 < v)) ∨ (x = 0 ∧ (0 ≤ u ∧ u ≤ 127 ∧ 0 ≤ v ∧ v ≤ 127) ∧ (w < -1 ∨ 7 < w ∨ u / 64 ≠ v / 64 ∨ v % 8 < u % 8 ∨ v / 8 % 8 < u / 8 % 8))) ∧ SAM 21 s t))) := by
  refine ct_ofX G (by decide) (Nat.le_of_ble_eq_true rfl) (fun k X E ET hRt hXt q => ?_)
  show WS k 0 [(0, .ref (A 0)), (1, .int (Int32.ofInt u)), (2, .int (Int32.ofInt v)), (3, .int (Int32.ofInt w))] [] _ 0 0
  have F : Fm [] [21, 1022, 1023] s s := fm_rf _ _ s
  have aw0_21 : SAM 21 s s := sam_rf
  refine z_aload_n X (x := A 0) (show cdA 144 0 = some (.aload_n 0, 1, 0, 0, 0) from rfl) (List.Mem.head _) ?_
  refine z_load_n X (x := u) (show cdA 144 1 = some (.iload_n 1, 1, 0, 0, 0) from rfl) (List.Mem.tail _ (List.Mem.head _)) ?_
  refine z_callV X 0 (rm := rmN 181) (As := [.int (Int32.ofInt u)]) (st := []) (show cdA 144 2 = some (.invokevirtual 168, 3, 181, 0, 0) from rfl) rfl (by decide) rfl (by rw [E.1, E.2.1, E.2.2.1]; exact cs_needCell6 G I (by first | exact ⟨p0.1, p0.2⟩ | omega)) ⟨by rw [E.2.2.2]; exact (show (rmN 181).frames + 1 ≤ (rmN 144).frames by decide), by rw [E.2.2.2]; exact (show 8 + (mNL (miB 181) + 11) + (rmN 181).locals ≤ (rmN 144).locals by decide), by rw [E.2.2.2]; exact (show 0 + 1 ≤ 4 by omega), by rw [E.2.2.2]; exact (show 0 + 6 ≤ 24 by omega)⟩ (Nat.le_of_ble_eq_true rfl) (fun vv s1 hq => ?_) (fun ee s1 hq => ?_)
  rotate_left
  · obtain ⟨Is1, Fs1, (⟨hv, hps1⟩ | ⟨xx, hv, hps1⟩)⟩ := hq
    · cases hv
    · cases hv
      have Gs1 := fm_ts F Fs1 (by decide) (by decide)
      have JPMJ_s1 : PMJ s1 := PMJ_fm Fs1 (by decide) jPMJ
      have aws1_21 : SAM 21 s s1 := sam_ts aw0_21 (sam_fm Fs1 (by decide))
      exact x_out X.1 q (fun x hx => (hXt x hx).elim) (show 1 ≤ 4 by omega) (show 6 ≤ 24 by omega) ⟨_, rfl, Is1, Gs1, JPMJ_s1, Or.inr ⟨xx, rfl, ⟨by omega, aws1_21⟩⟩⟩
  obtain ⟨Is1, Fs1, (⟨hv, hps1⟩ | ⟨xx, hv, hps1⟩)⟩ := hq
  rotate_left
  · cases hv
  cases hv
  have Gs1 := fm_ts F Fs1 (by decide) (by decide)
  have JPMJ_s1 : PMJ s1 := PMJ_fm Fs1 (by decide) jPMJ
  have aws1_21 : SAM 21 s s1 := sam_ts aw0_21 (sam_fm Fs1 (by decide))
  show WS k 5 [(0, .ref (A 0)), (1, .int (Int32.ofInt u)), (2, .int (Int32.ofInt v)), (3, .int (Int32.ofInt w))] [] (Wd A dT s1) 1 6
  refine z_aload_n X (x := A 0) (show cdA 144 5 = some (.aload_n 0, 1, 0, 0, 0) from rfl) (List.Mem.head _) ?_
  refine z_load_n X (x := v) (show cdA 144 6 = some (.iload_n 2, 1, 0, 0, 0) from rfl) (List.Mem.tail _ (List.Mem.tail _ (List.Mem.head _))) ?_
  refine z_callV X 0 (rm := rmN 181) (As := [.int (Int32.ofInt v)]) (st := []) (show cdA 144 7 = some (.invokevirtual 168, 3, 181, 0, 0) from rfl) rfl (by decide) rfl (by rw [E.1, E.2.1, E.2.2.1]; exact cs_needCell6 G Is1 (by first | exact ⟨p1.1, p1.2⟩ | omega)) ⟨by rw [E.2.2.2]; exact (show (rmN 181).frames + 1 ≤ (rmN 144).frames by decide), by rw [E.2.2.2]; exact (show 8 + (mNL (miB 181) + 11) + (rmN 181).locals ≤ (rmN 144).locals by decide), by rw [E.2.2.2]; exact (show 1 + 1 ≤ 4 by omega), by rw [E.2.2.2]; exact (show 6 + 6 ≤ 24 by omega)⟩ (Nat.le_of_ble_eq_true rfl) (fun vv s3 hq => ?_) (fun ee s3 hq => ?_)
  rotate_left
  · obtain ⟨Is3, Fs3, (⟨hv, hps3⟩ | ⟨xx, hv, hps3⟩)⟩ := hq
    · cases hv
    · cases hv
      have Gs3 := fm_ts Gs1 Fs3 (by decide) (by decide)
      have JPMJ_s3 : PMJ s3 := PMJ_fm Fs3 (by decide) JPMJ_s1
      have aws3_21 : SAM 21 s s3 := sam_ts aws1_21 (sam_fm Fs3 (by decide))
      exact x_out X.1 q (fun x hx => (hXt x hx).elim) (show (1 + 1) ≤ 4 by omega) (show (6 + 6) ≤ 24 by omega) ⟨_, rfl, Is3, Gs3, JPMJ_s3, Or.inr ⟨xx, rfl, ⟨by omega, aws3_21⟩⟩⟩
  obtain ⟨Is3, Fs3, (⟨hv, hps3⟩ | ⟨xx, hv, hps3⟩)⟩ := hq
  rotate_left
  · cases hv
  cases hv
  have Gs3 := fm_ts Gs1 Fs3 (by decide) (by decide)
  have JPMJ_s3 : PMJ s3 := PMJ_fm Fs3 (by decide) JPMJ_s1
  have aws3_21 : SAM 21 s s3 := sam_ts aws1_21 (sam_fm Fs3 (by decide))
  show WS k 10 [(0, .ref (A 0)), (1, .int (Int32.ofInt u)), (2, .int (Int32.ofInt v)), (3, .int (Int32.ofInt w))] [] (Wd A dT s3) (1 + 1) (6 + 6)
  refine z_aload_n X (x := A 0) (show cdA 144 10 = some (.aload_n 0, 1, 0, 0, 0) from rfl) (List.Mem.head _) ?_
  refine z_load_n X (x := w) (show cdA 144 11 = some (.iload_n 3, 1, 0, 0, 0) from rfl) (List.Mem.tail _ (List.Mem.tail _ (List.Mem.tail _ (List.Mem.head _)))) ?_
  refine z_const X (show cdA 144 12 = some (.iconst (-1), 1, 0, 0, 0) from rfl) ?_
  refine z_bipush X (show cdA 144 13 = some (.bipush 7, 2, 0, 0, 7) from rfl) ?_
  refine z_callV X 0 (rm := rmN 184) (As := [.int (Int32.ofInt w), .int (Int32.ofInt (-1)), .int (Int32.ofInt 7)]) (st := []) (show cdA 144 15 = some (.invokevirtual 151, 3, 184, 0, 0) from rfl) rfl (by decide) rfl (by rw [E.1, E.2.1, E.2.2.1]; exact cs_needWithin2 G Is3 (by first | exact ⟨p2.1, p2.2⟩ | omega) (by first | exact ⟨by decide, by decide⟩ | omega) (by first | exact ⟨by decide, by decide⟩ | omega)) ⟨by rw [E.2.2.2]; exact (show (rmN 184).frames + 1 ≤ (rmN 144).frames by decide), by rw [E.2.2.2]; exact (show 8 + (mNL (miB 184) + 11) + (rmN 184).locals ≤ (rmN 144).locals by decide), by rw [E.2.2.2]; exact (show (1 + 1) + 1 ≤ 4 by omega), by rw [E.2.2.2]; exact (show (6 + 6) + 6 ≤ 24 by omega)⟩ (Nat.le_of_ble_eq_true rfl) (fun vv s5 hq => ?_) (fun ee s5 hq => ?_)
  rotate_left
  · obtain ⟨Is5, Fs5, (⟨hv, hps5⟩ | ⟨xx, hv, hps5⟩)⟩ := hq
    · cases hv
    · cases hv
      have Gs5 := fm_ts Gs3 Fs5 (by decide) (by decide)
      have JPMJ_s5 : PMJ s5 := PMJ_fm Fs5 (by decide) JPMJ_s3
      have aws5_21 : SAM 21 s s5 := sam_ts aws3_21 (sam_fm Fs5 (by decide))
      exact x_out X.1 q (fun x hx => (hXt x hx).elim) (show ((1 + 1) + 1) ≤ 4 by omega) (show ((6 + 6) + 6) ≤ 24 by omega) ⟨_, rfl, Is5, Gs5, JPMJ_s5, Or.inr ⟨xx, rfl, ⟨by omega, aws5_21⟩⟩⟩
  obtain ⟨Is5, Fs5, (⟨hv, hps5⟩ | ⟨xx, hv, hps5⟩)⟩ := hq
  rotate_left
  · cases hv
  cases hv
  have Gs5 := fm_ts Gs3 Fs5 (by decide) (by decide)
  have JPMJ_s5 : PMJ s5 := PMJ_fm Fs5 (by decide) JPMJ_s3
  have aws5_21 : SAM 21 s s5 := sam_ts aws3_21 (sam_fm Fs5 (by decide))
  show WS k 18 [(0, .ref (A 0)), (1, .int (Int32.ofInt u)), (2, .int (Int32.ofInt v)), (3, .int (Int32.ofInt w))] [] (Wd A dT s5) ((1 + 1) + 1) ((6 + 6) + 6)
  refine z_load_n X (x := u) (show cdA 144 18 = some (.iload_n 1, 1, 0, 0, 0) from rfl) (List.Mem.tail _ (List.Mem.head _)) ?_
  refine z_bipush X (show cdA 144 19 = some (.bipush 64, 2, 0, 0, 64) from rfl) ?_
  refine z_quot X (show cdA 144 21 = some (.idiv, 1, 0, 0, 0) from rfl) (by first | exact hps1.1 | omega) ⟨by first | exact p0.1 | omega, by first | exact p0.2 | omega⟩ (by decide) (by decide) ?_
  refine z_load_n X (x := v) (show cdA 144 22 = some (.iload_n 2, 1, 0, 0, 0) from rfl) (List.Mem.tail _ (List.Mem.tail _ (List.Mem.head _))) ?_
  refine z_bipush X (show cdA 144 23 = some (.bipush 64, 2, 0, 0, 64) from rfl) ?_
  refine z_quot X (show cdA 144 25 = some (.idiv, 1, 0, 0, 0) from rfl) (by first | exact hps3.1 | omega) ⟨by first | exact p1.1 | omega, by first | exact p1.2 | omega⟩ (by decide) (by decide) ?_
  refine z_icmp_ne X (t := 55) (show cdA 144 26 = some (.if_icmp .ne 29, 3, 1, 0, 0) from rfl) (by decide) ⟨by first | exact oq_e5b8e207 hps1.1 | omega, by first | exact oq_874c0b28 hps1.2 | omega⟩ ⟨by first | exact oq_e5b8e207 hps3.1 | omega, by first | exact oq_874c0b28 hps3.2 | omega⟩ (fun g7 => ?_) (fun g7 => ?_)
  ·
    exact z_throw G X E ET hXt q (st := []) (show cdA 144 55 = some (.new 108, 3, 0, 1, 0) from rfl) (by decide) (by decide) (Nat.le_of_ble_eq_true rfl) (show ((1 + 1) + 1) + 1 ≤ 4 by omega) (show ((6 + 6) + 6) + 6 ≤ 24 by omega) (show ((1 + 1) + 1) + 1 ≤ 4 by omega) (show ((6 + 6) + 6) + 6 ≤ 24 by omega) ⟨_, rfl, Is5, Gs5, JPMJ_s5, Or.inr ⟨0, rfl, ⟨by omega, aws5_21⟩⟩⟩
  ·
    refine z_load_n X (x := u) (show cdA 144 29 = some (.iload_n 1, 1, 0, 0, 0) from rfl) (List.Mem.tail _ (List.Mem.head _)) ?_
    refine z_bipush X (show cdA 144 30 = some (.bipush 7, 2, 0, 0, 7) from rfl) ?_
    refine z_and7 X (show cdA 144 32 = some (.iand, 1, 0, 0, 0) from rfl) (by omega) ?_
    refine z_load_n X (x := v) (show cdA 144 33 = some (.iload_n 2, 1, 0, 0, 0) from rfl) (List.Mem.tail _ (List.Mem.tail _ (List.Mem.head _))) ?_
    refine z_bipush X (show cdA 144 34 = some (.bipush 7, 2, 0, 0, 7) from rfl) ?_
    refine z_and7 X (show cdA 144 36 = some (.iand, 1, 0, 0, 0) from rfl) (by omega) ?_
    refine z_icmp_gt X (t := 55) (show cdA 144 37 = some (.if_icmp .gt 18, 3, 4, 0, 0) from rfl) (by decide) ⟨by first | exact oq_e86162eb | omega, by first | exact oq_70086759 | omega⟩ ⟨by first | exact oq_e86162eb | omega, by first | exact oq_70086759 | omega⟩ (fun g8 => ?_) (fun g8 => ?_)
    ·
      exact z_throw G X E ET hXt q (st := []) (show cdA 144 55 = some (.new 108, 3, 0, 1, 0) from rfl) (by decide) (by decide) (Nat.le_of_ble_eq_true rfl) (show ((1 + 1) + 1) + 1 ≤ 4 by omega) (show ((6 + 6) + 6) + 6 ≤ 24 by omega) (show ((1 + 1) + 1) + 1 ≤ 4 by omega) (show ((6 + 6) + 6) + 6 ≤ 24 by omega) ⟨_, rfl, Is5, Gs5, JPMJ_s5, Or.inr ⟨0, rfl, ⟨by omega, aws5_21⟩⟩⟩
    ·
      refine z_load_n X (x := u) (show cdA 144 40 = some (.iload_n 1, 1, 0, 0, 0) from rfl) (List.Mem.tail _ (List.Mem.head _)) ?_
      refine z_const X (show cdA 144 41 = some (.iconst 3, 1, 0, 0, 0) from rfl) ?_
      refine z_bshr X (show cdA 144 42 = some (.ishr, 1, 0, 0, 0) from rfl) ?_
      refine z_anyV (fun y9 hy9 ey9 => ?_)
      have hs10 := shr_3 (x := u) (by omega) hy9 ey9
      refine z_bipush X (show cdA 144 43 = some (.bipush 7, 2, 0, 0, 7) from rfl) ?_
      refine z_and7 X (show cdA 144 45 = some (.iand, 1, 0, 0, 0) from rfl) (by omega) ?_
      refine z_load_n X (x := v) (show cdA 144 46 = some (.iload_n 2, 1, 0, 0, 0) from rfl) (List.Mem.tail _ (List.Mem.tail _ (List.Mem.head _))) ?_
      refine z_const X (show cdA 144 47 = some (.iconst 3, 1, 0, 0, 0) from rfl) ?_
      refine z_bshr X (show cdA 144 48 = some (.ishr, 1, 0, 0, 0) from rfl) ?_
      refine z_anyV (fun y11 hy11 ey11 => ?_)
      have hs12 := shr_3 (x := v) (by omega) hy11 ey11
      refine z_bipush X (show cdA 144 49 = some (.bipush 7, 2, 0, 0, 7) from rfl) ?_
      refine z_and7 X (show cdA 144 51 = some (.iand, 1, 0, 0, 0) from rfl) (by omega) ?_
      refine z_icmp_le X (t := 65) (show cdA 144 52 = some (.if_icmp .le 13, 3, 5, 0, 0) from rfl) (by decide) ⟨by first | exact oq_e86162eb | omega, by first | exact oq_70086759 | omega⟩ ⟨by first | exact oq_e86162eb | omega, by first | exact oq_70086759 | omega⟩ (fun g13 => ?_) (fun g13 => ?_)
      ·
        refine z_aload_n X (x := A 0) (show cdA 144 65 = some (.aload_n 0, 1, 0, 0, 0) from rfl) (List.Mem.head _) ?_
        refine s_getR X 0 (show cdA 144 66 = some (.getfield 35, 3, 11, 3, 0) from rfl) (by decide) rfl rfl ?_
        refine z_load_n X (x := u) (show cdA 144 69 = some (.iload_n 1, 1, 0, 0, 0) from rfl) (List.Mem.tail _ (List.Mem.head _)) ?_
        refine z_load_n X (x := v) (show cdA 144 70 = some (.iload_n 2, 1, 0, 0, 0) from rfl) (List.Mem.tail _ (List.Mem.tail _ (List.Mem.head _))) ?_
        refine z_load_n X (x := w) (show cdA 144 71 = some (.iload_n 3, 1, 0, 0, 0) from rfl) (List.Mem.tail _ (List.Mem.tail _ (List.Mem.tail _ (List.Mem.head _)))) ?_
        refine z_callV X 25 (rm := rmN 29) (As := [.int (Int32.ofInt u), .int (Int32.ofInt v), .int (Int32.ofInt w)]) (st := []) (show cdA 144 72 = some (.invokevirtual 176, 3, 29, 0, 0) from rfl) rfl (by decide) rfl (by rw [E.1, E.2.1, E.2.2.1]; exact c3_putAll6 G Is5 JPMJ_s5 (by first | exact ⟨hps1.1, hps1.2⟩ | omega) (by first | exact ⟨hps3.1, hps3.2⟩ | omega) (by first | exact ⟨hps5.1, hps5.2⟩ | omega) (by omega)) ⟨by rw [E.2.2.2]; exact (show (rmN 29).frames + 1 ≤ (rmN 144).frames by decide), by rw [E.2.2.2]; exact (show 8 + (mNL (miB 29) + 11) + (rmN 29).locals ≤ (rmN 144).locals by decide), by rw [E.2.2.2]; exact (show ((1 + 1) + 1) + 0 ≤ 4 by omega), by rw [E.2.2.2]; exact (show ((6 + 6) + 6) + 0 ≤ 24 by omega)⟩ (Nat.le_of_ble_eq_true rfl) (fun vv s14 hq => ?_) (fun ee s14 hq => ?_)
        rotate_left
        · obtain ⟨Is14, Fs14, JPMJ_s14, e15, hv, hrs14, hps14⟩ := hq; cases hv
        obtain ⟨Is14, Fs14, JPMJ_s14, e15, hv, hrs14, hps14⟩ := hq
        cases hv
        have Gs14 := fm_ts Gs5 Fs14 (by decide) (by decide)
        show WS k 75 [(0, .ref (A 0)), (1, .int (Int32.ofInt u)), (2, .int (Int32.ofInt v)), (3, .int (Int32.ofInt w))] [.int (Int32.ofInt e15)] (Wd A dT s14) ((1 + 1) + 1) ((6 + 6) + 6)
        exact w_iret X.1 q hRt rfl (ax_d X (show cdA 144 75 = some (.ireturn, 1, 0, 0, 0) from rfl)) (show ((1 + 1) + 1) ≤ 4 by omega) (show ((6 + 6) + 6) ≤ 24 by omega) ⟨_, rfl, Is14, Gs14, JPMJ_s14, Or.inl ⟨e15, rfl, hrs14, ⟨by first | exact ⟨hps1.1, hps1.2, hps3.1, hps3.2⟩ | omega, by first | exact ⟨hps5.1, hps5.2⟩ | omega, by first | exact g7 | omega, by first | exact g8 | omega, by omega, pnq_s hps14 (show pfC s5 = pfC s from funext aws5_21) rfl⟩⟩⟩
      ·
        exact z_throw G X E ET hXt q (st := []) (show cdA 144 55 = some (.new 108, 3, 0, 1, 0) from rfl) (by decide) (by decide) (Nat.le_of_ble_eq_true rfl) (show ((1 + 1) + 1) + 1 ≤ 4 by omega) (show ((6 + 6) + 6) + 6 ≤ 24 by omega) (show ((1 + 1) + 1) + 1 ≤ 4 by omega) (show ((6 + 6) + 6) + 6 ≤ 24 by omega) ⟨_, rfl, Is5, Gs5, JPMJ_s5, Or.inr ⟨0, rfl, ⟨by omega, aws5_21⟩⟩⟩
set_option maxRecDepth 4000 in
theorem k_paint6 (G : GX l s0 D tys a0 dT) (I : Bd s) {x y z : Int} (p0 : rng x) (p1 : rng y) (p2 : rng z) : CT l s0 D A dT 235 (rmN 235) [.ref (A 179), .int (Int32.ofInt x), .int (Int32.ofInt y), .int (Int32.ofInt z)] s (fun o t => Bd t ∧ Fm [73] [228] s t ∧ ∃ e, o = .inl (some (.int (Int32.ofInt e))) ∧ rng e ∧ ((((0 ≤ x ∧ x ≤ 127 ∧ 0 ≤ y ∧ y ≤ 127) ∧ (-1 ≤ z ∧ z ≤ 7) ∧ x / 64 = y / 64 ∧ x % 8 ≤ y % 8 ∧ x / 8 % 8 ≤ y / 8 % 8) ∧ iI t 73 = 0 ∧ PNQ (bxC x y) (pfM s) (pfM t) z 128 e) ∨ (((x < 0 ∨ 127 < x ∨ y < 0 ∨ 127 < y) ∧ iI t 73 = 1 ∨ ((0 ≤ x ∧ x ≤ 127 ∧ 0 ≤ y ∧ y ≤ 127) ∧ (z < -1 ∨ 7 < z ∨ x / 64 ≠ y / 64 ∨ y % 8 < x % 8 ∨ y / 8 % 8 < x / 8 % 8)) ∧ iI t 73 = 2) ∧ SAM 228 s t))) := by
  refine ct_of G (by decide) (Nat.le_of_ble_eq_true rfl) (fun k X E hRt hXt q => ?_)
  show WS k 0 [(0, .ref (A 179)), (1, .int (Int32.ofInt x)), (2, .int (Int32.ofInt y)), (3, .int (Int32.ofInt z))] [] _ 0 0
  have F : Fm [73] [228] s s := fm_rf _ _ s
  have aw0_228 : SAM 228 s s := sam_rf
  have b1 : (0 : Int) ≤ iI s 73 ∧ iI s 73 ≤ 3 := I.1 73
  have L114 : ∀ (n : Nat) (t : PS) (xv yv zv ch c : Int), Bd t → Fm [73] [228] s t → (PNQ (bxC x y) (pfM s) (pfM t) z c ch) → ((xv = x ∧ yv = y ∧ zv = z) ∧ ((0 ≤ x ∧ x ≤ 127 ∧ 0 ≤ y ∧ y ≤ 127) ∧ (-1 ≤ z ∧ z ≤ 7) ∧ x / 64 = y / 64 ∧ x % 8 ≤ y % 8 ∧ x / 8 % 8 ≤ y / 8 % 8) ∧ (0 ≤ ch ∧ ch ≤ c) ∧ (64 * (x / 64) ≤ c ∧ c ≤ 64 * (x / 64) + 64) ∧ iI t 73 = 0) → (128 - c : Int).toNat < n → (∀ (t' : PS) (ch' c' : Int), Bd t' → Fm [73] [228] s t' → (PNQ (bxC x y) (pfM s) (pfM t') z c' ch') → (((0 ≤ x ∧ x ≤ 127 ∧ 0 ≤ y ∧ y ≤ 127) ∧ (-1 ≤ z ∧ z ≤ 7) ∧ x / 64 = y / 64 ∧ x % 8 ≤ y % 8 ∧ x / 8 % 8 ≤ y / 8 % 8) ∧ (0 ≤ ch' ∧ ch' ≤ c') ∧ c' = 64 * (x / 64) + 64 ∧ iI t' 73 = 0) → WS k 214 [(0, .ref (A 179)), (1, .int (Int32.ofInt xv)), (2, .int (Int32.ofInt yv)), (3, .int (Int32.ofInt zv)), (4, .int (Int32.ofInt ch')), (5, .int (Int32.ofInt c'))] [] (Wd A dT t') 0 0) → WS k 114 [(0, .ref (A 179)), (1, .int (Int32.ofInt xv)), (2, .int (Int32.ofInt yv)), (3, .int (Int32.ofInt zv)), (4, .int (Int32.ofInt ch)), (5, .int (Int32.ofInt c))] [] (Wd A dT t) 0 0 := by
    intro n
    induction n with
    | zero =>
      intro t xv yv zv ch c I F hq hi hm kx
      exact absurd hm (Nat.not_lt_zero _)
    | succ n ih =>
      intro t xv yv zv ch c I F hq hi hm kx
      have b1001 : (0 : Int) ≤ iI t 73 ∧ iI t 73 ≤ 3 := I.1 73
      refine z_load X (x := c) (show cdA 235 114 = some (.iload 5, 2, 0, 0, 0) from rfl) (List.Mem.tail _ (List.Mem.tail _ (List.Mem.tail _ (List.Mem.tail _ (List.Mem.tail _ (List.Mem.head _)))))) ?_
      refine z_bipush X (show cdA 235 116 = some (.bipush 64, 2, 0, 0, 64) from rfl) ?_
      refine z_load_n X (x := xv) (show cdA 235 118 = some (.iload_n 1, 1, 0, 0, 0) from rfl) (List.Mem.tail _ (List.Mem.head _)) ?_
      refine z_bipush X (show cdA 235 119 = some (.bipush 64, 2, 0, 0, 64) from rfl) ?_
      refine z_quot X (show cdA 235 121 = some (.idiv, 1, 0, 0, 0) from rfl) (by first | exact oq_e4757433 hi.1.1 hi.2.1.1.1 | omega) ⟨by first | exact oq_b3df2c6f hi.1.1 hi.2.1.1.1 | omega, by first | exact oq_8093112e hi.1.1 hi.2.1.1.2.1 | omega⟩ (by decide) (by decide) ?_
      refine z_mul X (show cdA 235 122 = some (.imul, 1, 0, 0, 0) from rfl) ?_
      refine z_bipush X (show cdA 235 123 = some (.bipush 64, 2, 0, 0, 64) from rfl) ?_
      refine z_add X (show cdA 235 125 = some (.iadd, 1, 0, 0, 0) from rfl) ?_
      refine z_icmp_ge X (t := 214) (show cdA 235 126 = some (.if_icmp .ge 88, 3, 3, 0, 0) from rfl) (by decide) ⟨by first | exact oq_e001bc0d hi.2.2.1.2 hi.2.2.1.1 | omega, by first | exact oq_58735585 hi.2.2.2.1.2 hi.2.1.1.2.1 | omega⟩ ⟨by first | exact oq_3e4a24c6 hi.2.1.1.1 hi.1.1 | omega, by first | exact oq_5fd7680f hi.2.1.1.2.1 hi.1.1 | omega⟩ (fun g1002 => ?_) (fun g1002 => ?_)
      ·
        refine WS_lv (lv := [(0, .ref (A 179)), (1, .int (Int32.ofInt xv)), (2, .int (Int32.ofInt yv)), (3, .int (Int32.ofInt zv)), (4, .int (Int32.ofInt ch)), (5, .int (Int32.ofInt c))]) (List.forall_mem_cons.mpr ⟨(List.Mem.head _), (List.forall_mem_cons.mpr ⟨(List.Mem.tail _ (List.Mem.head _)), (List.forall_mem_cons.mpr ⟨(List.Mem.tail _ (List.Mem.tail _ (List.Mem.head _))), (List.forall_mem_cons.mpr ⟨(List.Mem.tail _ (List.Mem.tail _ (List.Mem.tail _ (List.Mem.head _)))), (List.forall_mem_cons.mpr ⟨(List.Mem.tail _ (List.Mem.tail _ (List.Mem.tail _ (List.Mem.tail _ (List.Mem.head _))))), (List.forall_mem_cons.mpr ⟨(List.Mem.tail _ (List.Mem.tail _ (List.Mem.tail _ (List.Mem.tail _ (List.Mem.tail _ (List.Mem.head _)))))), (fun q h => absurd h List.not_mem_nil)⟩)⟩)⟩)⟩)⟩)⟩) ?_
        exact kx _ ch c I F hq (by first | exact ⟨And.intro (And.intro (hi.2.1.1.1) (And.intro (hi.2.1.1.2.1) (And.intro (hi.2.1.1.2.2.1) (hi.2.1.1.2.2.2)))) (And.intro (And.intro (hi.2.1.2.1.1) (hi.2.1.2.1.2)) (And.intro (hi.2.1.2.2.1) (And.intro (hi.2.1.2.2.2.1) (hi.2.1.2.2.2.2)))), And.intro (hi.2.2.1.1) (hi.2.2.1.2), by omega, hi.2.2.2.2⟩ | omega)
      ·
        refine z_load X (x := c) (show cdA 235 129 = some (.iload 5, 2, 0, 0, 0) from rfl) (List.Mem.tail _ (List.Mem.tail _ (List.Mem.tail _ (List.Mem.tail _ (List.Mem.tail _ (List.Mem.head _)))))) ?_
        refine z_bipush X (show cdA 235 131 = some (.bipush 8, 2, 0, 0, 8) from rfl) ?_
        refine z_mod X (show cdA 235 133 = some (.irem, 1, 0, 0, 0) from rfl) (by first | exact oq_12a1f9e1 hi.2.2.1.2 hi.2.2.1.1 | omega) ⟨by first | exact oq_e001bc0d hi.2.2.1.2 hi.2.2.1.1 | omega, by first | exact oq_58735585 hi.2.2.2.1.2 hi.2.1.1.2.1 | omega⟩ (by decide) (by decide) ?_
        refine z_load_n X (x := xv) (show cdA 235 134 = some (.iload_n 1, 1, 0, 0, 0) from rfl) (List.Mem.tail _ (List.Mem.head _)) ?_
        refine z_bipush X (show cdA 235 135 = some (.bipush 8, 2, 0, 0, 8) from rfl) ?_
        refine z_mod X (show cdA 235 137 = some (.irem, 1, 0, 0, 0) from rfl) (by first | exact oq_e4757433 hi.1.1 hi.2.1.1.1 | omega) ⟨by first | exact oq_b3df2c6f hi.1.1 hi.2.1.1.1 | omega, by first | exact oq_8093112e hi.1.1 hi.2.1.1.2.1 | omega⟩ (by decide) (by decide) ?_
        refine z_load_n X (x := yv) (show cdA 235 138 = some (.iload_n 2, 1, 0, 0, 0) from rfl) (List.Mem.tail _ (List.Mem.tail _ (List.Mem.head _))) ?_
        refine z_bipush X (show cdA 235 139 = some (.bipush 8, 2, 0, 0, 8) from rfl) ?_
        refine z_mod X (show cdA 235 141 = some (.irem, 1, 0, 0, 0) from rfl) (by first | exact oq_e4757433 hi.1.2.1 hi.2.1.1.2.2.1 | omega) ⟨by first | exact oq_b3df2c6f hi.1.2.1 hi.2.1.1.2.2.1 | omega, by first | exact oq_8093112e hi.1.2.1 hi.2.1.1.2.2.2 | omega⟩ (by decide) (by decide) ?_
        refine z_callS X (rm := rmN 188) (As := [.int (Int32.ofInt (c % 8)), .int (Int32.ofInt (xv % 8)), .int (Int32.ofInt (yv % 8))]) (st := []) (show cdA 235 142 = some (.invokestatic 209, 3, 188, 1, 0) from rfl) rfl (by rw [E.1, E.2.1, E.2.2.1]; exact k_in2 G I (by first | exact ⟨oq_e86162eb, oq_70086759⟩ | omega) (by first | exact ⟨oq_e86162eb, oq_70086759⟩ | omega) (by first | exact ⟨oq_e86162eb, oq_70086759⟩ | omega)) ⟨by rw [E.2.2.2]; exact (show (rmN 188).frames + 1 ≤ (rmN 235).frames by decide), by rw [E.2.2.2]; exact (show 8 + (mNL (miB 188) + 11) + (rmN 188).locals ≤ (rmN 235).locals by decide), by rw [E.2.2.2]; exact (show 0 + (rmN 188).cells ≤ (rmN 235).cells by decide), by rw [E.2.2.2]; exact (show 0 + (rmN 188).slots ≤ (rmN 235).slots by decide)⟩ (Nat.le_of_ble_eq_true rfl) (fun vv s1003 hq => ?_) (fun ee s1003 hq => ?_)
        rotate_left
        · obtain ⟨rfl, e1004, hv, hrs1003, hps1003⟩ := hq; cases hv
        obtain ⟨rfl, e1004, hv, hrs1003, hps1003⟩ := hq
        cases hv
        show WS k 145 [(0, .ref (A 179)), (1, .int (Int32.ofInt xv)), (2, .int (Int32.ofInt yv)), (3, .int (Int32.ofInt zv)), (4, .int (Int32.ofInt ch)), (5, .int (Int32.ofInt c))] [.int (Int32.ofInt e1004)] (Wd A dT t) 0 0
        refine z_if_eq X (t := 208) (show cdA 235 145 = some (.ifCond .eq 63, 3, 0, 0, 0) from rfl) (by decide) hrs1003 (fun g1005 => ?_) (fun g1005 => ?_)
        ·
          refine z_inc X (x := c) (lv' := [(5, .int (Int32.ofInt (c + 1))), (0, .ref (A 179)), (1, .int (Int32.ofInt xv)), (2, .int (Int32.ofInt yv)), (3, .int (Int32.ofInt zv)), (4, .int (Int32.ofInt ch))]) (show cdA 235 208 = some (.iinc 5 1, 3, 0, 0, 0) from rfl) (by decide) (List.Mem.tail _ (List.Mem.tail _ (List.Mem.tail _ (List.Mem.tail _ (List.Mem.tail _ (List.Mem.head _)))))) (fun _ h => h) ?_
          refine z_goto X (t := 114) (show cdA 235 211 = some (.goto (-97), 3, 0, 0, 0) from rfl) (by decide) ?_
          refine WS_lv (lv := [(0, .ref (A 179)), (1, .int (Int32.ofInt xv)), (2, .int (Int32.ofInt yv)), (3, .int (Int32.ofInt zv)), (4, .int (Int32.ofInt ch)), (5, .int (Int32.ofInt (c + 1)))]) (List.forall_mem_cons.mpr ⟨(List.Mem.tail _ (List.Mem.head _)), (List.forall_mem_cons.mpr ⟨(List.Mem.tail _ (List.Mem.tail _ (List.Mem.head _))), (List.forall_mem_cons.mpr ⟨(List.Mem.tail _ (List.Mem.tail _ (List.Mem.tail _ (List.Mem.head _)))), (List.forall_mem_cons.mpr ⟨(List.Mem.tail _ (List.Mem.tail _ (List.Mem.tail _ (List.Mem.tail _ (List.Mem.head _))))), (List.forall_mem_cons.mpr ⟨(List.Mem.tail _ (List.Mem.tail _ (List.Mem.tail _ (List.Mem.tail _ (List.Mem.tail _ (List.Mem.head _)))))), (List.forall_mem_cons.mpr ⟨(List.Mem.head _), (fun q h => absurd h List.not_mem_nil)⟩)⟩)⟩)⟩)⟩)⟩) ?_
          exact ih _ xv yv zv ch (c + 1) I F (pnq_n hq (by omega) (fun q => by unfold bxC at q; omega)) (by first | exact ⟨And.intro (hi.1.1) (And.intro (hi.1.2.1) (hi.1.2.2)), And.intro (And.intro (hi.2.1.1.1) (And.intro (hi.2.1.1.2.1) (And.intro (hi.2.1.1.2.2.1) (hi.2.1.1.2.2.2)))) (And.intro (And.intro (hi.2.1.2.1.1) (hi.2.1.2.1.2)) (And.intro (hi.2.1.2.2.1) (And.intro (hi.2.1.2.2.2.1) (hi.2.1.2.2.2.2)))), And.intro (hi.2.2.1.1) (oq_03182e9e hi.2.2.1.2), by omega, hi.2.2.2.2⟩ | omega) (by omega) kx
        ·
          refine z_load X (x := c) (show cdA 235 148 = some (.iload 5, 2, 0, 0, 0) from rfl) (List.Mem.tail _ (List.Mem.tail _ (List.Mem.tail _ (List.Mem.tail _ (List.Mem.tail _ (List.Mem.head _)))))) ?_
          refine z_bipush X (show cdA 235 150 = some (.bipush 8, 2, 0, 0, 8) from rfl) ?_
          refine z_quot X (show cdA 235 152 = some (.idiv, 1, 0, 0, 0) from rfl) (by first | exact oq_12a1f9e1 hi.2.2.1.2 hi.2.2.1.1 | omega) ⟨by first | exact oq_e001bc0d hi.2.2.1.2 hi.2.2.1.1 | omega, by first | exact oq_58735585 hi.2.2.2.1.2 hi.2.1.1.2.1 | omega⟩ (by decide) (by decide) ?_
          refine z_bipush X (show cdA 235 153 = some (.bipush 8, 2, 0, 0, 8) from rfl) ?_
          refine z_mod X (show cdA 235 155 = some (.irem, 1, 0, 0, 0) from rfl) (by first | exact oq_36b78649 hi.2.2.1.2 hi.2.2.1.1 | omega) ⟨by first | exact oq_fb4875cb hi.2.2.1.2 hi.2.2.1.1 | omega, by first | exact oq_47d8c7b8 hi.2.2.2.1.2 hi.2.1.1.2.1 | omega⟩ (by decide) (by decide) ?_
          refine z_load_n X (x := xv) (show cdA 235 156 = some (.iload_n 1, 1, 0, 0, 0) from rfl) (List.Mem.tail _ (List.Mem.head _)) ?_
          refine z_bipush X (show cdA 235 157 = some (.bipush 8, 2, 0, 0, 8) from rfl) ?_
          refine z_quot X (show cdA 235 159 = some (.idiv, 1, 0, 0, 0) from rfl) (by first | exact oq_e4757433 hi.1.1 hi.2.1.1.1 | omega) ⟨by first | exact oq_b3df2c6f hi.1.1 hi.2.1.1.1 | omega, by first | exact oq_8093112e hi.1.1 hi.2.1.1.2.1 | omega⟩ (by decide) (by decide) ?_
          refine z_bipush X (show cdA 235 160 = some (.bipush 8, 2, 0, 0, 8) from rfl) ?_
          refine z_mod X (show cdA 235 162 = some (.irem, 1, 0, 0, 0) from rfl) (by first | exact oq_e73cc6ab hi.2.1.1.1 hi.1.1 | omega) ⟨by first | exact oq_7a924152 hi.2.1.1.1 hi.1.1 | omega, by first | exact oq_8b559516 hi.2.1.1.2.1 hi.1.1 | omega⟩ (by decide) (by decide) ?_
          refine z_load_n X (x := yv) (show cdA 235 163 = some (.iload_n 2, 1, 0, 0, 0) from rfl) (List.Mem.tail _ (List.Mem.tail _ (List.Mem.head _))) ?_
          refine z_bipush X (show cdA 235 164 = some (.bipush 8, 2, 0, 0, 8) from rfl) ?_
          refine z_quot X (show cdA 235 166 = some (.idiv, 1, 0, 0, 0) from rfl) (by first | exact oq_e4757433 hi.1.2.1 hi.2.1.1.2.2.1 | omega) ⟨by first | exact oq_b3df2c6f hi.1.2.1 hi.2.1.1.2.2.1 | omega, by first | exact oq_8093112e hi.1.2.1 hi.2.1.1.2.2.2 | omega⟩ (by decide) (by decide) ?_
          refine z_bipush X (show cdA 235 167 = some (.bipush 8, 2, 0, 0, 8) from rfl) ?_
          refine z_mod X (show cdA 235 169 = some (.irem, 1, 0, 0, 0) from rfl) (by first | exact oq_e73cc6ab hi.2.1.1.2.2.1 hi.1.2.1 | omega) ⟨by first | exact oq_7a924152 hi.2.1.1.2.2.1 hi.1.2.1 | omega, by first | exact oq_8b559516 hi.2.1.1.2.2.2 hi.1.2.1 | omega⟩ (by decide) (by decide) ?_
          refine z_callS X (rm := rmN 188) (As := [.int (Int32.ofInt ((c / 8) % 8)), .int (Int32.ofInt ((xv / 8) % 8)), .int (Int32.ofInt ((yv / 8) % 8))]) (st := []) (show cdA 235 170 = some (.invokestatic 209, 3, 188, 1, 0) from rfl) rfl (by rw [E.1, E.2.1, E.2.2.1]; exact k_in2 G I (by first | exact ⟨oq_452e8fda, oq_267eaf70⟩ | omega) (by first | exact ⟨oq_452e8fda, oq_267eaf70⟩ | omega) (by first | exact ⟨oq_452e8fda, oq_267eaf70⟩ | omega)) ⟨by rw [E.2.2.2]; exact (show (rmN 188).frames + 1 ≤ (rmN 235).frames by decide), by rw [E.2.2.2]; exact (show 8 + (mNL (miB 188) + 11) + (rmN 188).locals ≤ (rmN 235).locals by decide), by rw [E.2.2.2]; exact (show 0 + (rmN 188).cells ≤ (rmN 235).cells by decide), by rw [E.2.2.2]; exact (show 0 + (rmN 188).slots ≤ (rmN 235).slots by decide)⟩ (Nat.le_of_ble_eq_true rfl) (fun vv s1006 hq => ?_) (fun ee s1006 hq => ?_)
          rotate_left
          · obtain ⟨rfl, e1007, hv, hrs1006, hps1006⟩ := hq; cases hv
          obtain ⟨rfl, e1007, hv, hrs1006, hps1006⟩ := hq
          cases hv
          show WS k 173 [(0, .ref (A 179)), (1, .int (Int32.ofInt xv)), (2, .int (Int32.ofInt yv)), (3, .int (Int32.ofInt zv)), (4, .int (Int32.ofInt ch)), (5, .int (Int32.ofInt c))] [.int (Int32.ofInt e1007)] (Wd A dT t) 0 0
          refine z_if_ne X (t := 179) (show cdA 235 173 = some (.ifCond .ne 6, 3, 1, 0, 0) from rfl) (by decide) hrs1006 (fun g1008 => ?_) (fun g1008 => ?_)
          ·
            refine z_load X (x := ch) (show cdA 235 179 = some (.iload 4, 2, 0, 0, 0) from rfl) (List.Mem.tail _ (List.Mem.tail _ (List.Mem.tail _ (List.Mem.tail _ (List.Mem.head _))))) ?_
            refine z_aload_n X (x := A 179) (show cdA 235 181 = some (.aload_n 0, 1, 0, 0, 0) from rfl) (List.Mem.head _) ?_
            refine s_getR X 179 (show cdA 235 182 = some (.getfield 70, 3, 12, 35, 0) from rfl) (by decide) rfl rfl ?_
            refine z_load X (x := c) (show cdA 235 185 = some (.iload 5, 2, 0, 0, 0) from rfl) (List.Mem.tail _ (List.Mem.tail _ (List.Mem.tail _ (List.Mem.tail _ (List.Mem.tail _ (List.Mem.head _)))))) ?_
            refine z_ald X 256 (show cdA 235 187 = some (.iaload, 1, 0, 0, 0) from rfl) (by decide) rfl (by first | exact oq_12a1f9e1 hi.2.2.1.2 hi.2.2.1.1 | omega) (show c < 128 by omega) (by decide) ?_
            have b1009 : ((-1) : Int) ≤ iC t 228 (c).toNat ∧ iC t 228 (c).toNat ≤ 7 := I.2 228 _ (show (c).toNat < 128 by omega)
            have ar1010 : iC t 228 (c).toNat = iC t 228 (c).toNat := (sam_rf (a := 228) (s := t)) _
            refine z_load_n X (x := zv) (show cdA 235 188 = some (.iload_n 3, 1, 0, 0, 0) from rfl) (List.Mem.tail _ (List.Mem.tail _ (List.Mem.tail _ (List.Mem.head _)))) ?_
            have hfc : pfM s (c : Int).toNat = (iC t 228 (c).toNat) := (pnq_g hq (by omega)).symm.trans rfl
            refine z_icmp_ne X (t := 196) (show cdA 235 189 = some (.if_icmp .ne 7, 3, 1, 0, 0) from rfl) (by decide) (rng_to _) ⟨by first | exact oq_709dc04f hi.1.2.2 hi.2.1.2.1.1 | omega, by first | exact oq_b2f566bc hi.1.2.2 hi.2.1.2.1.2 | omega⟩ (fun g1011 => ?_) (fun g1011 => ?_)
            ·
              refine z_const X (show cdA 235 196 = some (.iconst 1, 1, 0, 0, 0) from rfl) ?_
              refine z_add X (show cdA 235 197 = some (.iadd, 1, 0, 0, 0) from rfl) ?_
              refine z_store X (lv' := [(4, .int (Int32.ofInt (ch + 1))), (0, .ref (A 179)), (1, .int (Int32.ofInt xv)), (2, .int (Int32.ofInt yv)), (3, .int (Int32.ofInt zv)), (5, .int (Int32.ofInt c))]) (show cdA 235 198 = some (.istore 4, 2, 0, 0, 0) from rfl) (by decide) (fun _ h => h) ?_
              refine z_aload_n X (x := A 179) (show cdA 235 200 = some (.aload_n 0, 1, 0, 0, 0) from rfl) (List.Mem.tail _ (List.Mem.head _)) ?_
              refine s_getR X 179 (show cdA 235 201 = some (.getfield 70, 3, 12, 35, 0) from rfl) (by decide) rfl rfl ?_
              refine z_load X (x := c) (show cdA 235 204 = some (.iload 5, 2, 0, 0, 0) from rfl) (List.Mem.tail _ (List.Mem.tail _ (List.Mem.tail _ (List.Mem.tail _ (List.Mem.tail _ (List.Mem.head _)))))) ?_
              refine z_load_n X (x := zv) (show cdA 235 206 = some (.iload_n 3, 1, 0, 0, 0) from rfl) (List.Mem.tail _ (List.Mem.tail _ (List.Mem.tail _ (List.Mem.tail _ (List.Mem.head _))))) ?_
              refine z_ast X 256 (show cdA 235 207 = some (.iastore, 1, 0, 0, 0) from rfl) (by decide) rfl (by first | exact oq_12a1f9e1 hi.2.2.1.2 hi.2.2.1.1 | omega) (show c < 128 by omega) (by decide) ?_
              obtain ⟨s1012, hs1012⟩ : ∃ x0, x0 = uC t 228 (c).toNat (Int32.ofInt zv) := ⟨_, rfl⟩
              rw [← hs1012]
              have Is1012 : Bd s1012 := by rw [hs1012]; exact bd_C I (show ((-1) : Int) ≤ zv ∧ zv ≤ 7 by first | exact ⟨oq_65661d22 hi.1.2.2 hi.2.1.2.1.1, oq_4da978b7 hi.1.2.2 hi.2.1.2.1.2⟩ | omega) ⟨by first | exact oq_709dc04f hi.1.2.2 hi.2.1.2.1.1 | omega, by first | exact oq_b2f566bc hi.1.2.2 hi.2.1.2.1.2 | omega⟩
              have Fs1012 := fm_C (i := (c).toNat) (x := Int32.ofInt zv) F (show 228 ∈ _ by decide)
              rw [← hs1012] at Fs1012
              have ws1012_73 : iI s1012 73 = iI t 73 := by rw [hs1012]; rfl
              have aws1012_228 : UPD 228 (c) zv t s1012 := by rw [hs1012]; exact upd_put (sam_rf (a := 228) (s := t)) ⟨by first | exact oq_709dc04f hi.1.2.2 hi.2.1.2.1.1 | omega, by first | exact oq_b2f566bc hi.1.2.2 hi.2.1.2.1.2 | omega⟩
              refine z_inc X (x := c) (lv' := [(5, .int (Int32.ofInt (c + 1))), (4, .int (Int32.ofInt (ch + 1))), (0, .ref (A 179)), (1, .int (Int32.ofInt xv)), (2, .int (Int32.ofInt yv)), (3, .int (Int32.ofInt zv))]) (show cdA 235 208 = some (.iinc 5 1, 3, 0, 0, 0) from rfl) (by decide) (List.Mem.tail _ (List.Mem.tail _ (List.Mem.tail _ (List.Mem.tail _ (List.Mem.tail _ (List.Mem.head _)))))) (fun _ h => h) ?_
              refine z_goto X (t := 114) (show cdA 235 211 = some (.goto (-97), 3, 0, 0, 0) from rfl) (by decide) ?_
              refine WS_lv (lv := [(0, .ref (A 179)), (1, .int (Int32.ofInt xv)), (2, .int (Int32.ofInt yv)), (3, .int (Int32.ofInt zv)), (4, .int (Int32.ofInt (ch + 1))), (5, .int (Int32.ofInt (c + 1)))]) (List.forall_mem_cons.mpr ⟨(List.Mem.tail _ (List.Mem.tail _ (List.Mem.head _))), (List.forall_mem_cons.mpr ⟨(List.Mem.tail _ (List.Mem.tail _ (List.Mem.tail _ (List.Mem.head _)))), (List.forall_mem_cons.mpr ⟨(List.Mem.tail _ (List.Mem.tail _ (List.Mem.tail _ (List.Mem.tail _ (List.Mem.head _))))), (List.forall_mem_cons.mpr ⟨(List.Mem.tail _ (List.Mem.tail _ (List.Mem.tail _ (List.Mem.tail _ (List.Mem.tail _ (List.Mem.head _)))))), (List.forall_mem_cons.mpr ⟨(List.Mem.tail _ (List.Mem.head _)), (List.forall_mem_cons.mpr ⟨(List.Mem.head _), (fun q h => absurd h List.not_mem_nil)⟩)⟩)⟩)⟩)⟩)⟩) ?_
              exact ih _ xv yv zv (ch + 1) (c + 1) Is1012 Fs1012 (pnq_y hq (by omega) (by unfold bxC; omega) (by rw [show z = zv by omega]; exact upm_upd aws1012_228) (by rw [i01_t (by rw [hfc]; omega)])) (by first | exact ⟨And.intro (hi.1.1) (And.intro (hi.1.2.1) (hi.1.2.2)), And.intro (And.intro (hi.2.1.1.1) (And.intro (hi.2.1.1.2.1) (And.intro (hi.2.1.1.2.2.1) (hi.2.1.1.2.2.2)))) (And.intro (And.intro (hi.2.1.2.1.1) (hi.2.1.2.1.2)) (And.intro (hi.2.1.2.2.1) (And.intro (hi.2.1.2.2.2.1) (hi.2.1.2.2.2.2)))), And.intro (oq_54f49eb5 hi.2.2.1.1) (oq_8d48a029 hi.2.2.1.2), by omega, oq_333640b7 ws1012_73 hi.2.2.2.2 b1001.1⟩ | omega) (by omega) kx
            ·
              refine z_const X (show cdA 235 192 = some (.iconst 0, 1, 0, 0, 0) from rfl) ?_
              refine z_goto X (t := 197) (show cdA 235 193 = some (.goto 4, 3, 0, 0, 0) from rfl) (by decide) ?_
              refine z_add X (show cdA 235 197 = some (.iadd, 1, 0, 0, 0) from rfl) ?_
              refine z_store X (lv' := [(4, .int (Int32.ofInt (ch + 0))), (0, .ref (A 179)), (1, .int (Int32.ofInt xv)), (2, .int (Int32.ofInt yv)), (3, .int (Int32.ofInt zv)), (5, .int (Int32.ofInt c))]) (show cdA 235 198 = some (.istore 4, 2, 0, 0, 0) from rfl) (by decide) (fun _ h => h) ?_
              refine z_aload_n X (x := A 179) (show cdA 235 200 = some (.aload_n 0, 1, 0, 0, 0) from rfl) (List.Mem.tail _ (List.Mem.head _)) ?_
              refine s_getR X 179 (show cdA 235 201 = some (.getfield 70, 3, 12, 35, 0) from rfl) (by decide) rfl rfl ?_
              refine z_load X (x := c) (show cdA 235 204 = some (.iload 5, 2, 0, 0, 0) from rfl) (List.Mem.tail _ (List.Mem.tail _ (List.Mem.tail _ (List.Mem.tail _ (List.Mem.tail _ (List.Mem.head _)))))) ?_
              refine z_load_n X (x := zv) (show cdA 235 206 = some (.iload_n 3, 1, 0, 0, 0) from rfl) (List.Mem.tail _ (List.Mem.tail _ (List.Mem.tail _ (List.Mem.tail _ (List.Mem.head _))))) ?_
              refine z_ast X 256 (show cdA 235 207 = some (.iastore, 1, 0, 0, 0) from rfl) (by decide) rfl (by first | exact oq_12a1f9e1 hi.2.2.1.2 hi.2.2.1.1 | omega) (show c < 128 by omega) (by decide) ?_
              obtain ⟨s1013, hs1013⟩ : ∃ x0, x0 = uC t 228 (c).toNat (Int32.ofInt zv) := ⟨_, rfl⟩
              rw [← hs1013]
              have Is1013 : Bd s1013 := by rw [hs1013]; exact bd_C I (show ((-1) : Int) ≤ zv ∧ zv ≤ 7 by first | exact ⟨oq_2d12af5e g1011 b1009.1, oq_5f8273e9 g1011 b1009.2⟩ | omega) ⟨by first | exact oq_86c5c068 g1011 b1009.1 | omega, by first | exact oq_07478d3a g1011 b1009.2 | omega⟩
              have Fs1013 := fm_C (i := (c).toNat) (x := Int32.ofInt zv) F (show 228 ∈ _ by decide)
              rw [← hs1013] at Fs1013
              have ws1013_73 : iI s1013 73 = iI t 73 := by rw [hs1013]; rfl
              have aws1013_228 : UPD 228 (c) zv t s1013 := by rw [hs1013]; exact upd_put (sam_rf (a := 228) (s := t)) ⟨by first | exact oq_86c5c068 g1011 b1009.1 | omega, by first | exact oq_07478d3a g1011 b1009.2 | omega⟩
              refine z_inc X (x := c) (lv' := [(5, .int (Int32.ofInt (c + 1))), (4, .int (Int32.ofInt (ch + 0))), (0, .ref (A 179)), (1, .int (Int32.ofInt xv)), (2, .int (Int32.ofInt yv)), (3, .int (Int32.ofInt zv))]) (show cdA 235 208 = some (.iinc 5 1, 3, 0, 0, 0) from rfl) (by decide) (List.Mem.tail _ (List.Mem.tail _ (List.Mem.tail _ (List.Mem.tail _ (List.Mem.tail _ (List.Mem.head _)))))) (fun _ h => h) ?_
              refine z_goto X (t := 114) (show cdA 235 211 = some (.goto (-97), 3, 0, 0, 0) from rfl) (by decide) ?_
              refine WS_lv (lv := [(0, .ref (A 179)), (1, .int (Int32.ofInt xv)), (2, .int (Int32.ofInt yv)), (3, .int (Int32.ofInt zv)), (4, .int (Int32.ofInt (ch + 0))), (5, .int (Int32.ofInt (c + 1)))]) (List.forall_mem_cons.mpr ⟨(List.Mem.tail _ (List.Mem.tail _ (List.Mem.head _))), (List.forall_mem_cons.mpr ⟨(List.Mem.tail _ (List.Mem.tail _ (List.Mem.tail _ (List.Mem.head _)))), (List.forall_mem_cons.mpr ⟨(List.Mem.tail _ (List.Mem.tail _ (List.Mem.tail _ (List.Mem.tail _ (List.Mem.head _))))), (List.forall_mem_cons.mpr ⟨(List.Mem.tail _ (List.Mem.tail _ (List.Mem.tail _ (List.Mem.tail _ (List.Mem.tail _ (List.Mem.head _)))))), (List.forall_mem_cons.mpr ⟨(List.Mem.tail _ (List.Mem.head _)), (List.forall_mem_cons.mpr ⟨(List.Mem.head _), (fun q h => absurd h List.not_mem_nil)⟩)⟩)⟩)⟩)⟩)⟩) ?_
              exact ih _ xv yv zv (ch + 0) (c + 1) Is1013 Fs1013 (pnq_y hq (by omega) (by unfold bxC; omega) (by rw [show z = zv by omega]; exact upm_upd aws1013_228) (by rw [i01_f (fun q => q (by rw [hfc]; omega))])) (by first | exact ⟨And.intro (hi.1.1) (And.intro (hi.1.2.1) (hi.1.2.2)), And.intro (And.intro (hi.2.1.1.1) (And.intro (hi.2.1.1.2.1) (And.intro (hi.2.1.1.2.2.1) (hi.2.1.1.2.2.2)))) (And.intro (And.intro (hi.2.1.2.1.1) (hi.2.1.2.1.2)) (And.intro (hi.2.1.2.2.1) (And.intro (hi.2.1.2.2.2.1) (hi.2.1.2.2.2.2)))), And.intro (oq_590e7a3f hi.2.2.1.1) (oq_2d160f3c hi.2.2.1.2), by omega, oq_333640b7 ws1013_73 hi.2.2.2.2 b1001.1⟩ | omega) (by omega) kx
          ·
            refine z_goto X (t := 208) (show cdA 235 176 = some (.goto 32, 3, 0, 0, 0) from rfl) (by decide) ?_
            refine z_inc X (x := c) (lv' := [(5, .int (Int32.ofInt (c + 1))), (0, .ref (A 179)), (1, .int (Int32.ofInt xv)), (2, .int (Int32.ofInt yv)), (3, .int (Int32.ofInt zv)), (4, .int (Int32.ofInt ch))]) (show cdA 235 208 = some (.iinc 5 1, 3, 0, 0, 0) from rfl) (by decide) (List.Mem.tail _ (List.Mem.tail _ (List.Mem.tail _ (List.Mem.tail _ (List.Mem.tail _ (List.Mem.head _)))))) (fun _ h => h) ?_
            refine z_goto X (t := 114) (show cdA 235 211 = some (.goto (-97), 3, 0, 0, 0) from rfl) (by decide) ?_
            refine WS_lv (lv := [(0, .ref (A 179)), (1, .int (Int32.ofInt xv)), (2, .int (Int32.ofInt yv)), (3, .int (Int32.ofInt zv)), (4, .int (Int32.ofInt ch)), (5, .int (Int32.ofInt (c + 1)))]) (List.forall_mem_cons.mpr ⟨(List.Mem.tail _ (List.Mem.head _)), (List.forall_mem_cons.mpr ⟨(List.Mem.tail _ (List.Mem.tail _ (List.Mem.head _))), (List.forall_mem_cons.mpr ⟨(List.Mem.tail _ (List.Mem.tail _ (List.Mem.tail _ (List.Mem.head _)))), (List.forall_mem_cons.mpr ⟨(List.Mem.tail _ (List.Mem.tail _ (List.Mem.tail _ (List.Mem.tail _ (List.Mem.head _))))), (List.forall_mem_cons.mpr ⟨(List.Mem.tail _ (List.Mem.tail _ (List.Mem.tail _ (List.Mem.tail _ (List.Mem.tail _ (List.Mem.head _)))))), (List.forall_mem_cons.mpr ⟨(List.Mem.head _), (fun q h => absurd h List.not_mem_nil)⟩)⟩)⟩)⟩)⟩)⟩) ?_
            exact ih _ xv yv zv ch (c + 1) I F (pnq_n hq (by omega) (fun q => by unfold bxC at q; omega)) (by first | exact ⟨And.intro (hi.1.1) (And.intro (hi.1.2.1) (hi.1.2.2)), And.intro (And.intro (hi.2.1.1.1) (And.intro (hi.2.1.1.2.1) (And.intro (hi.2.1.1.2.2.1) (hi.2.1.1.2.2.2)))) (And.intro (And.intro (hi.2.1.2.1.1) (hi.2.1.2.1.2)) (And.intro (hi.2.1.2.2.1) (And.intro (hi.2.1.2.2.2.1) (hi.2.1.2.2.2.2)))), And.intro (hi.2.2.1.1) (oq_03182e9e hi.2.2.1.2), by omega, hi.2.2.2.2⟩ | omega) (by omega) kx
  refine z_aload_n X (x := A 179) (show cdA 235 0 = some (.aload_n 0, 1, 0, 0, 0) from rfl) (List.Mem.head _) ?_
  refine z_const X (show cdA 235 1 = some (.iconst 0, 1, 0, 0, 0) from rfl) ?_
  refine s_putI X 179 (show cdA 235 2 = some (.putfield 172, 3, 12, 0, 0) from rfl) (by decide) rfl rfl (by decide) rfl rfl rfl ?_
  obtain ⟨s2, hs2⟩ : ∃ x0, x0 = uI s 73 (Int32.ofInt 0) := ⟨_, rfl⟩
  rw [← hs2]
  have Is2 : Bd s2 := by rw [hs2]; exact bd_I I (show (0 : Int) ≤ 0 ∧ 0 ≤ 3 by first | exact ⟨by decide, by decide⟩ | omega) (by decide)
  have Fs2 := fm_I (x := Int32.ofInt 0) F (show 73 ∈ _ by decide)
  rw [← hs2] at Fs2
  have vs2 : iI s2 73 = 0 := by rw [hs2]; exact iI_u (by decide)
  have aws2_228 : SAM 228 s s2 := by rw [hs2]; exact aw0_228
  refine z_aload_n X (x := A 179) (show cdA 235 5 = some (.aload_n 0, 1, 0, 0, 0) from rfl) (List.Mem.head _) ?_
  refine z_load_n X (x := x) (show cdA 235 6 = some (.iload_n 1, 1, 0, 0, 0) from rfl) (List.Mem.tail _ (List.Mem.head _)) ?_
  refine z_const X (show cdA 235 7 = some (.iconst 0, 1, 0, 0, 0) from rfl) ?_
  refine z_bipush X (show cdA 235 8 = some (.bipush 127, 2, 0, 0, 127) from rfl) ?_
  refine z_callS X (rm := rmN 188) (As := [.int (Int32.ofInt x), .int (Int32.ofInt 0), .int (Int32.ofInt 127)]) (st := [.ref (A 179)]) (show cdA 235 10 = some (.invokestatic 209, 3, 188, 1, 0) from rfl) rfl (by rw [E.1, E.2.1, E.2.2.1]; exact k_in2 G Is2 (by first | exact ⟨p0.1, p0.2⟩ | omega) (by first | exact ⟨by decide, by decide⟩ | omega) (by first | exact ⟨by decide, by decide⟩ | omega)) ⟨by rw [E.2.2.2]; exact (show (rmN 188).frames + 1 ≤ (rmN 235).frames by decide), by rw [E.2.2.2]; exact (show 8 + (mNL (miB 188) + 11) + (rmN 188).locals ≤ (rmN 235).locals by decide), by rw [E.2.2.2]; exact (show 0 + (rmN 188).cells ≤ (rmN 235).cells by decide), by rw [E.2.2.2]; exact (show 0 + (rmN 188).slots ≤ (rmN 235).slots by decide)⟩ (Nat.le_of_ble_eq_true rfl) (fun vv s3 hq => ?_) (fun ee s3 hq => ?_)
  rotate_left
  · obtain ⟨rfl, e4, hv, hrs3, hps3⟩ := hq; cases hv
  obtain ⟨rfl, e4, hv, hrs3, hps3⟩ := hq
  cases hv
  show WS k 13 [(0, .ref (A 179)), (1, .int (Int32.ofInt x)), (2, .int (Int32.ofInt y)), (3, .int (Int32.ofInt z))] [.int (Int32.ofInt e4), .ref (A 179)] (Wd A dT s2) 0 0
  refine z_if_eq X (t := 26) (show cdA 235 13 = some (.ifCond .eq 13, 3, 0, 0, 0) from rfl) (by decide) hrs3 (fun g5 => ?_) (fun g5 => ?_)
  ·
    refine z_const X (show cdA 235 26 = some (.iconst 1, 1, 0, 0, 0) from rfl) ?_
    refine z_goto X (t := 31) (show cdA 235 27 = some (.goto 4, 3, 0, 0, 0) from rfl) (by decide) ?_
    refine z_const X (show cdA 235 31 = some (.iconst 1, 1, 0, 0, 0) from rfl) ?_
    refine z_callV X 179 (rm := rmN 187) (As := [.int (Int32.ofInt 1), .int (Int32.ofInt 1)]) (st := []) (show cdA 235 32 = some (.invokevirtual 229, 3, 187, 0, 0) from rfl) rfl (by decide) rfl (by rw [E.1, E.2.1, E.2.2.1]; exact k_bad2 G Is2 (by first | exact Or.inr (by decide) | omega) (by first | exact ⟨by decide, by decide⟩ | omega)) ⟨by rw [E.2.2.2]; exact (show (rmN 187).frames + 1 ≤ (rmN 235).frames by decide), by rw [E.2.2.2]; exact (show 8 + (mNL (miB 187) + 11) + (rmN 187).locals ≤ (rmN 235).locals by decide), by rw [E.2.2.2]; exact (show 0 + (rmN 187).cells ≤ (rmN 235).cells by decide), by rw [E.2.2.2]; exact (show 0 + (rmN 187).slots ≤ (rmN 235).slots by decide)⟩ (Nat.le_of_ble_eq_true rfl) (fun vv s6 hq => ?_) (fun ee s6 hq => ?_)
    rotate_left
    · obtain ⟨Is6, Fs6, e7, hv, hrs6, hps6⟩ := hq; cases hv
    obtain ⟨Is6, Fs6, e7, hv, hrs6, hps6⟩ := hq
    cases hv
    have Gs6 := fm_ts Fs2 Fs6 (by decide) (by decide)
    have b8 : (0 : Int) ≤ iI s6 73 ∧ iI s6 73 ≤ 3 := Is6.1 73
    have aws6_228 : SAM 228 s s6 := sam_ts aws2_228 (sam_fm Fs6 (by decide))
    show WS k 35 [(0, .ref (A 179)), (1, .int (Int32.ofInt x)), (2, .int (Int32.ofInt y)), (3, .int (Int32.ofInt z))] [.int (Int32.ofInt e7)] (Wd A dT s6) 0 0
    refine z_if_ne X (t := 100) (show cdA 235 35 = some (.ifCond .ne 65, 3, 1, 0, 0) from rfl) (by decide) hrs6 (fun g9 => ?_) (fun g9 => ?_)
    ·
      refine z_const X (show cdA 235 100 = some (.iconst 0, 1, 0, 0, 0) from rfl) ?_
      exact w_iret X.1 q hRt rfl (ax_d X (show cdA 235 101 = some (.ireturn, 1, 0, 0, 0) from rfl)) (Nat.zero_le _) (Nat.zero_le _) ⟨_, rfl, Is6, Gs6, 0, rfl, (by decide), Or.inr ⟨by first | exact oq_e43b399a g9 hps6 g5 hps3 vs2 | omega, aws6_228⟩⟩
    ·
      refine z_aload_n X (x := A 179) (show cdA 235 38 = some (.aload_n 0, 1, 0, 0, 0) from rfl) (List.Mem.head _) ?_
      refine z_load_n X (x := z) (show cdA 235 39 = some (.iload_n 3, 1, 0, 0, 0) from rfl) (List.Mem.tail _ (List.Mem.tail _ (List.Mem.tail _ (List.Mem.head _)))) ?_
      refine z_const X (show cdA 235 40 = some (.iconst (-1), 1, 0, 0, 0) from rfl) ?_
      refine z_bipush X (show cdA 235 41 = some (.bipush 7, 2, 0, 0, 7) from rfl) ?_
      refine z_callS X (rm := rmN 188) (As := [.int (Int32.ofInt z), .int (Int32.ofInt (-1)), .int (Int32.ofInt 7)]) (st := [.ref (A 179)]) (show cdA 235 43 = some (.invokestatic 209, 3, 188, 1, 0) from rfl) rfl (by rw [E.1, E.2.1, E.2.2.1]; exact k_in2 G Is6 (by first | exact ⟨p2.1, p2.2⟩ | omega) (by first | exact ⟨by decide, by decide⟩ | omega) (by first | exact ⟨by decide, by decide⟩ | omega)) ⟨by rw [E.2.2.2]; exact (show (rmN 188).frames + 1 ≤ (rmN 235).frames by decide), by rw [E.2.2.2]; exact (show 8 + (mNL (miB 188) + 11) + (rmN 188).locals ≤ (rmN 235).locals by decide), by rw [E.2.2.2]; exact (show 0 + (rmN 188).cells ≤ (rmN 235).cells by decide), by rw [E.2.2.2]; exact (show 0 + (rmN 188).slots ≤ (rmN 235).slots by decide)⟩ (Nat.le_of_ble_eq_true rfl) (fun vv s10 hq => ?_) (fun ee s10 hq => ?_)
      rotate_left
      · obtain ⟨rfl, e11, hv, hrs10, hps10⟩ := hq; cases hv
      obtain ⟨rfl, e11, hv, hrs10, hps10⟩ := hq
      cases hv
      show WS k 46 [(0, .ref (A 179)), (1, .int (Int32.ofInt x)), (2, .int (Int32.ofInt y)), (3, .int (Int32.ofInt z))] [.int (Int32.ofInt e11), .ref (A 179)] (Wd A dT s6) 0 0
      refine z_if_eq X (t := 88) (show cdA 235 46 = some (.ifCond .eq 42, 3, 0, 0, 0) from rfl) (by decide) hrs10 (fun g12 => ?_) (fun g12 => ?_)
      ·
        refine z_const X (show cdA 235 88 = some (.iconst 1, 1, 0, 0, 0) from rfl) ?_
        refine z_goto X (t := 93) (show cdA 235 89 = some (.goto 4, 3, 0, 0, 0) from rfl) (by decide) ?_
        refine z_const X (show cdA 235 93 = some (.iconst 2, 1, 0, 0, 0) from rfl) ?_
        refine z_callV X 179 (rm := rmN 187) (As := [.int (Int32.ofInt 1), .int (Int32.ofInt 2)]) (st := []) (show cdA 235 94 = some (.invokevirtual 229, 3, 187, 0, 0) from rfl) rfl (by decide) rfl (by rw [E.1, E.2.1, E.2.2.1]; exact k_bad2 G Is6 (by first | exact Or.inr (by decide) | omega) (by first | exact ⟨by decide, by decide⟩ | omega)) ⟨by rw [E.2.2.2]; exact (show (rmN 187).frames + 1 ≤ (rmN 235).frames by decide), by rw [E.2.2.2]; exact (show 8 + (mNL (miB 187) + 11) + (rmN 187).locals ≤ (rmN 235).locals by decide), by rw [E.2.2.2]; exact (show 0 + (rmN 187).cells ≤ (rmN 235).cells by decide), by rw [E.2.2.2]; exact (show 0 + (rmN 187).slots ≤ (rmN 235).slots by decide)⟩ (Nat.le_of_ble_eq_true rfl) (fun vv s13 hq => ?_) (fun ee s13 hq => ?_)
        rotate_left
        · obtain ⟨Is13, Fs13, e14, hv, hrs13, hps13⟩ := hq; cases hv
        obtain ⟨Is13, Fs13, e14, hv, hrs13, hps13⟩ := hq
        cases hv
        have Gs13 := fm_ts Gs6 Fs13 (by decide) (by decide)
        have b15 : (0 : Int) ≤ iI s13 73 ∧ iI s13 73 ≤ 3 := Is13.1 73
        have aws13_228 : SAM 228 s s13 := sam_ts aws6_228 (sam_fm Fs13 (by decide))
        show WS k 97 [(0, .ref (A 179)), (1, .int (Int32.ofInt x)), (2, .int (Int32.ofInt y)), (3, .int (Int32.ofInt z))] [.int (Int32.ofInt e14)] (Wd A dT s13) 0 0
        refine z_if_eq X (t := 102) (show cdA 235 97 = some (.ifCond .eq 5, 3, 0, 0, 0) from rfl) (by decide) hrs13 (fun g16 => ?_) (fun g16 => ?_)
        ·
          refine z_const X (show cdA 235 102 = some (.iconst 0, 1, 0, 0, 0) from rfl) ?_
          refine z_store X (lv' := [(4, .int (Int32.ofInt 0)), (0, .ref (A 179)), (1, .int (Int32.ofInt x)), (2, .int (Int32.ofInt y)), (3, .int (Int32.ofInt z))]) (show cdA 235 103 = some (.istore 4, 2, 0, 0, 0) from rfl) (by decide) (fun _ h => h) ?_
          refine z_bipush X (show cdA 235 105 = some (.bipush 64, 2, 0, 0, 64) from rfl) ?_
          refine z_load_n X (x := x) (show cdA 235 107 = some (.iload_n 1, 1, 0, 0, 0) from rfl) (List.Mem.tail _ (List.Mem.tail _ (List.Mem.head _))) ?_
          refine z_bipush X (show cdA 235 108 = some (.bipush 64, 2, 0, 0, 64) from rfl) ?_
          refine z_quot X (show cdA 235 110 = some (.idiv, 1, 0, 0, 0) from rfl) (by first | exact oq_7bca4f44 g16 hps13 g9 b8.1 hps6 vs2 | omega) ⟨by first | exact p0.1 | omega, by first | exact p0.2 | omega⟩ (by decide) (by decide) ?_
          refine z_mul X (show cdA 235 111 = some (.imul, 1, 0, 0, 0) from rfl) ?_
          refine z_store X (lv' := [(5, .int (Int32.ofInt (64 * (x / 64)))), (4, .int (Int32.ofInt 0)), (0, .ref (A 179)), (1, .int (Int32.ofInt x)), (2, .int (Int32.ofInt y)), (3, .int (Int32.ofInt z))]) (show cdA 235 112 = some (.istore 5, 2, 0, 0, 0) from rfl) (by decide) (fun _ h => h) ?_
          refine WS_lv (lv := [(0, .ref (A 179)), (1, .int (Int32.ofInt x)), (2, .int (Int32.ofInt y)), (3, .int (Int32.ofInt z)), (4, .int (Int32.ofInt 0)), (5, .int (Int32.ofInt (64 * (x / 64))))]) (List.forall_mem_cons.mpr ⟨(List.Mem.tail _ (List.Mem.tail _ (List.Mem.head _))), (List.forall_mem_cons.mpr ⟨(List.Mem.tail _ (List.Mem.tail _ (List.Mem.tail _ (List.Mem.head _)))), (List.forall_mem_cons.mpr ⟨(List.Mem.tail _ (List.Mem.tail _ (List.Mem.tail _ (List.Mem.tail _ (List.Mem.head _))))), (List.forall_mem_cons.mpr ⟨(List.Mem.tail _ (List.Mem.tail _ (List.Mem.tail _ (List.Mem.tail _ (List.Mem.tail _ (List.Mem.head _)))))), (List.forall_mem_cons.mpr ⟨(List.Mem.tail _ (List.Mem.head _)), (List.forall_mem_cons.mpr ⟨(List.Mem.head _), (fun q h => absurd h List.not_mem_nil)⟩)⟩)⟩)⟩)⟩)⟩) ?_
          refine L114 ((128 - (64 * (x / 64)) : Int).toNat + 1) s13 x y z 0 (64 * (x / 64)) Is13 Gs13 (pnq_s (pnq_0 (f := pfM s) (by omega) (fun c h0 h1 q => by unfold bxC at q; omega)) rfl (show pfM s = pfM s13 from (funext aws13_228).symm)) (by first | exact ⟨And.intro (by decide) (And.intro (by decide) (by decide)), oq_3b5755f7 g16 hps13 g9 b8.1 hps6 vs2, oq_60648b5f g16 hps13 g9 b8.1 hps6 vs2, And.intro (by decide) (by decide), oq_7ef9130d g16 b15.1 hps13 g9 hps6 vs2⟩ | omega) (Nat.lt_succ_self _) ?_
          intro s17 x18 x19 Is17 Fs17 Qs17 hs17
          have b20 : (0 : Int) ≤ iI s17 73 ∧ iI s17 73 ≤ 3 := Is17.1 73
          refine z_load X (x := x18) (show cdA 235 214 = some (.iload 4, 2, 0, 0, 0) from rfl) (List.Mem.tail _ (List.Mem.tail _ (List.Mem.tail _ (List.Mem.tail _ (List.Mem.head _))))) ?_
          exact w_iret X.1 q hRt rfl (ax_d X (show cdA 235 216 = some (.ireturn, 1, 0, 0, 0) from rfl)) (Nat.zero_le _) (Nat.zero_le _) ⟨_, rfl, Is17, Fs17, x18, rfl, ⟨by first | exact oq_fa4e5087 hs17.2.1.1 | omega, by first | exact oq_ba739599 hs17.2.2.1 hs17.2.1.2 hs17.1.1.2.1 | omega⟩, Or.inl ⟨by first | exact ⟨And.intro (hs17.1.1.1) (And.intro (hs17.1.1.2.1) (And.intro (hs17.1.1.2.2.1) (hs17.1.1.2.2.2))), And.intro (hs17.1.2.1.1) (hs17.1.2.1.2), hs17.1.2.2.1, hs17.1.2.2.2.1, hs17.1.2.2.2.2⟩ | omega, by first | exact hs17.2.2.2 | omega, pnq_z Qs17 (by omega) (by omega) (fun c hc q => by unfold bxC at q; omega)⟩⟩
        ·
          refine z_const X (show cdA 235 100 = some (.iconst 0, 1, 0, 0, 0) from rfl) ?_
          exact w_iret X.1 q hRt rfl (ax_d X (show cdA 235 101 = some (.ireturn, 1, 0, 0, 0) from rfl)) (Nat.zero_le _) (Nat.zero_le _) ⟨_, rfl, Is13, Gs13, 0, rfl, (by decide), Or.inr ⟨by first | exact oq_adc32970 g9 hps6 vs2 | omega, aws13_228⟩⟩
      ·
        refine z_load_n X (x := x) (show cdA 235 49 = some (.iload_n 1, 1, 0, 0, 0) from rfl) (List.Mem.tail _ (List.Mem.head _)) ?_
        refine z_bipush X (show cdA 235 50 = some (.bipush 64, 2, 0, 0, 64) from rfl) ?_
        refine z_quot X (show cdA 235 52 = some (.idiv, 1, 0, 0, 0) from rfl) (by first | exact oq_674898f9 g9 hps6 vs2 | omega) ⟨by first | exact p0.1 | omega, by first | exact p0.2 | omega⟩ (by decide) (by decide) ?_
        refine z_load_n X (x := y) (show cdA 235 53 = some (.iload_n 2, 1, 0, 0, 0) from rfl) (List.Mem.tail _ (List.Mem.tail _ (List.Mem.head _))) ?_
        refine z_bipush X (show cdA 235 54 = some (.bipush 64, 2, 0, 0, 64) from rfl) ?_
        refine z_quot X (show cdA 235 56 = some (.idiv, 1, 0, 0, 0) from rfl) (by first | exact oq_674898f9 g9 hps6 vs2 | omega) ⟨by first | exact p1.1 | omega, by first | exact p1.2 | omega⟩ (by decide) (by decide) ?_
        refine z_icmp_ne X (t := 88) (show cdA 235 57 = some (.if_icmp .ne 31, 3, 1, 0, 0) from rfl) (by decide) ⟨by first | exact oq_f457fe4f p0.1 | omega, by first | exact oq_e42dd4bd p0.2 | omega⟩ ⟨by first | exact oq_f457fe4f p1.1 | omega, by first | exact oq_e42dd4bd p1.2 | omega⟩ (fun g21 => ?_) (fun g21 => ?_)
        ·
          refine z_const X (show cdA 235 88 = some (.iconst 1, 1, 0, 0, 0) from rfl) ?_
          refine z_goto X (t := 93) (show cdA 235 89 = some (.goto 4, 3, 0, 0, 0) from rfl) (by decide) ?_
          refine z_const X (show cdA 235 93 = some (.iconst 2, 1, 0, 0, 0) from rfl) ?_
          refine z_callV X 179 (rm := rmN 187) (As := [.int (Int32.ofInt 1), .int (Int32.ofInt 2)]) (st := []) (show cdA 235 94 = some (.invokevirtual 229, 3, 187, 0, 0) from rfl) rfl (by decide) rfl (by rw [E.1, E.2.1, E.2.2.1]; exact k_bad2 G Is6 (by first | exact Or.inr (by decide) | omega) (by first | exact ⟨by decide, by decide⟩ | omega)) ⟨by rw [E.2.2.2]; exact (show (rmN 187).frames + 1 ≤ (rmN 235).frames by decide), by rw [E.2.2.2]; exact (show 8 + (mNL (miB 187) + 11) + (rmN 187).locals ≤ (rmN 235).locals by decide), by rw [E.2.2.2]; exact (show 0 + (rmN 187).cells ≤ (rmN 235).cells by decide), by rw [E.2.2.2]; exact (show 0 + (rmN 187).slots ≤ (rmN 235).slots by decide)⟩ (Nat.le_of_ble_eq_true rfl) (fun vv s22 hq => ?_) (fun ee s22 hq => ?_)
          rotate_left
          · obtain ⟨Is22, Fs22, e23, hv, hrs22, hps22⟩ := hq; cases hv
          obtain ⟨Is22, Fs22, e23, hv, hrs22, hps22⟩ := hq
          cases hv
          have Gs22 := fm_ts Gs6 Fs22 (by decide) (by decide)
          have b24 : (0 : Int) ≤ iI s22 73 ∧ iI s22 73 ≤ 3 := Is22.1 73
          have aws22_228 : SAM 228 s s22 := sam_ts aws6_228 (sam_fm Fs22 (by decide))
          show WS k 97 [(0, .ref (A 179)), (1, .int (Int32.ofInt x)), (2, .int (Int32.ofInt y)), (3, .int (Int32.ofInt z))] [.int (Int32.ofInt e23)] (Wd A dT s22) 0 0
          refine z_if_eq X (t := 102) (show cdA 235 97 = some (.ifCond .eq 5, 3, 0, 0, 0) from rfl) (by decide) hrs22 (fun g25 => ?_) (fun g25 => ?_)
          ·
            refine z_const X (show cdA 235 102 = some (.iconst 0, 1, 0, 0, 0) from rfl) ?_
            refine z_store X (lv' := [(4, .int (Int32.ofInt 0)), (0, .ref (A 179)), (1, .int (Int32.ofInt x)), (2, .int (Int32.ofInt y)), (3, .int (Int32.ofInt z))]) (show cdA 235 103 = some (.istore 4, 2, 0, 0, 0) from rfl) (by decide) (fun _ h => h) ?_
            refine z_bipush X (show cdA 235 105 = some (.bipush 64, 2, 0, 0, 64) from rfl) ?_
            refine z_load_n X (x := x) (show cdA 235 107 = some (.iload_n 1, 1, 0, 0, 0) from rfl) (List.Mem.tail _ (List.Mem.tail _ (List.Mem.head _))) ?_
            refine z_bipush X (show cdA 235 108 = some (.bipush 64, 2, 0, 0, 64) from rfl) ?_
            refine z_quot X (show cdA 235 110 = some (.idiv, 1, 0, 0, 0) from rfl) (by first | exact oq_7bca4f44 g25 hps22 g9 b8.1 hps6 vs2 | omega) ⟨by first | exact p0.1 | omega, by first | exact p0.2 | omega⟩ (by decide) (by decide) ?_
            refine z_mul X (show cdA 235 111 = some (.imul, 1, 0, 0, 0) from rfl) ?_
            refine z_store X (lv' := [(5, .int (Int32.ofInt (64 * (x / 64)))), (4, .int (Int32.ofInt 0)), (0, .ref (A 179)), (1, .int (Int32.ofInt x)), (2, .int (Int32.ofInt y)), (3, .int (Int32.ofInt z))]) (show cdA 235 112 = some (.istore 5, 2, 0, 0, 0) from rfl) (by decide) (fun _ h => h) ?_
            refine WS_lv (lv := [(0, .ref (A 179)), (1, .int (Int32.ofInt x)), (2, .int (Int32.ofInt y)), (3, .int (Int32.ofInt z)), (4, .int (Int32.ofInt 0)), (5, .int (Int32.ofInt (64 * (x / 64))))]) (List.forall_mem_cons.mpr ⟨(List.Mem.tail _ (List.Mem.tail _ (List.Mem.head _))), (List.forall_mem_cons.mpr ⟨(List.Mem.tail _ (List.Mem.tail _ (List.Mem.tail _ (List.Mem.head _)))), (List.forall_mem_cons.mpr ⟨(List.Mem.tail _ (List.Mem.tail _ (List.Mem.tail _ (List.Mem.tail _ (List.Mem.head _))))), (List.forall_mem_cons.mpr ⟨(List.Mem.tail _ (List.Mem.tail _ (List.Mem.tail _ (List.Mem.tail _ (List.Mem.tail _ (List.Mem.head _)))))), (List.forall_mem_cons.mpr ⟨(List.Mem.tail _ (List.Mem.head _)), (List.forall_mem_cons.mpr ⟨(List.Mem.head _), (fun q h => absurd h List.not_mem_nil)⟩)⟩)⟩)⟩)⟩)⟩) ?_
            refine L114 ((128 - (64 * (x / 64)) : Int).toNat + 1) s22 x y z 0 (64 * (x / 64)) Is22 Gs22 (pnq_s (pnq_0 (f := pfM s) (by omega) (fun c h0 h1 q => by unfold bxC at q; omega)) rfl (show pfM s = pfM s22 from (funext aws22_228).symm)) (by first | exact ⟨And.intro (by decide) (And.intro (by decide) (by decide)), oq_3b5755f7 g25 hps22 g9 b8.1 hps6 vs2, oq_60648b5f g25 hps22 g9 b8.1 hps6 vs2, And.intro (by decide) (by decide), oq_7ef9130d g25 b24.1 hps22 g9 hps6 vs2⟩ | omega) (Nat.lt_succ_self _) ?_
            intro s26 x27 x28 Is26 Fs26 Qs26 hs26
            have b29 : (0 : Int) ≤ iI s26 73 ∧ iI s26 73 ≤ 3 := Is26.1 73
            refine z_load X (x := x27) (show cdA 235 214 = some (.iload 4, 2, 0, 0, 0) from rfl) (List.Mem.tail _ (List.Mem.tail _ (List.Mem.tail _ (List.Mem.tail _ (List.Mem.head _))))) ?_
            exact w_iret X.1 q hRt rfl (ax_d X (show cdA 235 216 = some (.ireturn, 1, 0, 0, 0) from rfl)) (Nat.zero_le _) (Nat.zero_le _) ⟨_, rfl, Is26, Fs26, x27, rfl, ⟨by first | exact oq_fa4e5087 hs26.2.1.1 | omega, by first | exact oq_ba739599 hs26.2.2.1 hs26.2.1.2 hs26.1.1.2.1 | omega⟩, Or.inl ⟨by first | exact ⟨And.intro (hs26.1.1.1) (And.intro (hs26.1.1.2.1) (And.intro (hs26.1.1.2.2.1) (hs26.1.1.2.2.2))), And.intro (hs26.1.2.1.1) (hs26.1.2.1.2), hs26.1.2.2.1, hs26.1.2.2.2.1, hs26.1.2.2.2.2⟩ | omega, by first | exact hs26.2.2.2 | omega, pnq_z Qs26 (by omega) (by omega) (fun c hc q => by unfold bxC at q; omega)⟩⟩
          ·
            refine z_const X (show cdA 235 100 = some (.iconst 0, 1, 0, 0, 0) from rfl) ?_
            exact w_iret X.1 q hRt rfl (ax_d X (show cdA 235 101 = some (.ireturn, 1, 0, 0, 0) from rfl)) (Nat.zero_le _) (Nat.zero_le _) ⟨_, rfl, Is22, Gs22, 0, rfl, (by decide), Or.inr ⟨by first | exact oq_adc32970 g9 hps6 vs2 | omega, aws22_228⟩⟩
        ·
          refine z_load_n X (x := x) (show cdA 235 60 = some (.iload_n 1, 1, 0, 0, 0) from rfl) (List.Mem.tail _ (List.Mem.head _)) ?_
          refine z_bipush X (show cdA 235 61 = some (.bipush 8, 2, 0, 0, 8) from rfl) ?_
          refine z_mod X (show cdA 235 63 = some (.irem, 1, 0, 0, 0) from rfl) (by first | exact oq_674898f9 g9 hps6 vs2 | omega) ⟨by first | exact p0.1 | omega, by first | exact p0.2 | omega⟩ (by decide) (by decide) ?_
          refine z_load_n X (x := y) (show cdA 235 64 = some (.iload_n 2, 1, 0, 0, 0) from rfl) (List.Mem.tail _ (List.Mem.tail _ (List.Mem.head _))) ?_
          refine z_bipush X (show cdA 235 65 = some (.bipush 8, 2, 0, 0, 8) from rfl) ?_
          refine z_mod X (show cdA 235 67 = some (.irem, 1, 0, 0, 0) from rfl) (by first | exact oq_674898f9 g9 hps6 vs2 | omega) ⟨by first | exact p1.1 | omega, by first | exact p1.2 | omega⟩ (by decide) (by decide) ?_
          refine z_icmp_gt X (t := 88) (show cdA 235 68 = some (.if_icmp .gt 20, 3, 4, 0, 0) from rfl) (by decide) ⟨by first | exact oq_e86162eb | omega, by first | exact oq_70086759 | omega⟩ ⟨by first | exact oq_e86162eb | omega, by first | exact oq_70086759 | omega⟩ (fun g30 => ?_) (fun g30 => ?_)
          ·
            refine z_const X (show cdA 235 88 = some (.iconst 1, 1, 0, 0, 0) from rfl) ?_
            refine z_goto X (t := 93) (show cdA 235 89 = some (.goto 4, 3, 0, 0, 0) from rfl) (by decide) ?_
            refine z_const X (show cdA 235 93 = some (.iconst 2, 1, 0, 0, 0) from rfl) ?_
            refine z_callV X 179 (rm := rmN 187) (As := [.int (Int32.ofInt 1), .int (Int32.ofInt 2)]) (st := []) (show cdA 235 94 = some (.invokevirtual 229, 3, 187, 0, 0) from rfl) rfl (by decide) rfl (by rw [E.1, E.2.1, E.2.2.1]; exact k_bad2 G Is6 (by first | exact Or.inr (by decide) | omega) (by first | exact ⟨by decide, by decide⟩ | omega)) ⟨by rw [E.2.2.2]; exact (show (rmN 187).frames + 1 ≤ (rmN 235).frames by decide), by rw [E.2.2.2]; exact (show 8 + (mNL (miB 187) + 11) + (rmN 187).locals ≤ (rmN 235).locals by decide), by rw [E.2.2.2]; exact (show 0 + (rmN 187).cells ≤ (rmN 235).cells by decide), by rw [E.2.2.2]; exact (show 0 + (rmN 187).slots ≤ (rmN 235).slots by decide)⟩ (Nat.le_of_ble_eq_true rfl) (fun vv s31 hq => ?_) (fun ee s31 hq => ?_)
            rotate_left
            · obtain ⟨Is31, Fs31, e32, hv, hrs31, hps31⟩ := hq; cases hv
            obtain ⟨Is31, Fs31, e32, hv, hrs31, hps31⟩ := hq
            cases hv
            have Gs31 := fm_ts Gs6 Fs31 (by decide) (by decide)
            have b33 : (0 : Int) ≤ iI s31 73 ∧ iI s31 73 ≤ 3 := Is31.1 73
            have aws31_228 : SAM 228 s s31 := sam_ts aws6_228 (sam_fm Fs31 (by decide))
            show WS k 97 [(0, .ref (A 179)), (1, .int (Int32.ofInt x)), (2, .int (Int32.ofInt y)), (3, .int (Int32.ofInt z))] [.int (Int32.ofInt e32)] (Wd A dT s31) 0 0
            refine z_if_eq X (t := 102) (show cdA 235 97 = some (.ifCond .eq 5, 3, 0, 0, 0) from rfl) (by decide) hrs31 (fun g34 => ?_) (fun g34 => ?_)
            ·
              refine z_const X (show cdA 235 102 = some (.iconst 0, 1, 0, 0, 0) from rfl) ?_
              refine z_store X (lv' := [(4, .int (Int32.ofInt 0)), (0, .ref (A 179)), (1, .int (Int32.ofInt x)), (2, .int (Int32.ofInt y)), (3, .int (Int32.ofInt z))]) (show cdA 235 103 = some (.istore 4, 2, 0, 0, 0) from rfl) (by decide) (fun _ h => h) ?_
              refine z_bipush X (show cdA 235 105 = some (.bipush 64, 2, 0, 0, 64) from rfl) ?_
              refine z_load_n X (x := x) (show cdA 235 107 = some (.iload_n 1, 1, 0, 0, 0) from rfl) (List.Mem.tail _ (List.Mem.tail _ (List.Mem.head _))) ?_
              refine z_bipush X (show cdA 235 108 = some (.bipush 64, 2, 0, 0, 64) from rfl) ?_
              refine z_quot X (show cdA 235 110 = some (.idiv, 1, 0, 0, 0) from rfl) (by first | exact oq_7bca4f44 g34 hps31 g9 b8.1 hps6 vs2 | omega) ⟨by first | exact p0.1 | omega, by first | exact p0.2 | omega⟩ (by decide) (by decide) ?_
              refine z_mul X (show cdA 235 111 = some (.imul, 1, 0, 0, 0) from rfl) ?_
              refine z_store X (lv' := [(5, .int (Int32.ofInt (64 * (x / 64)))), (4, .int (Int32.ofInt 0)), (0, .ref (A 179)), (1, .int (Int32.ofInt x)), (2, .int (Int32.ofInt y)), (3, .int (Int32.ofInt z))]) (show cdA 235 112 = some (.istore 5, 2, 0, 0, 0) from rfl) (by decide) (fun _ h => h) ?_
              refine WS_lv (lv := [(0, .ref (A 179)), (1, .int (Int32.ofInt x)), (2, .int (Int32.ofInt y)), (3, .int (Int32.ofInt z)), (4, .int (Int32.ofInt 0)), (5, .int (Int32.ofInt (64 * (x / 64))))]) (List.forall_mem_cons.mpr ⟨(List.Mem.tail _ (List.Mem.tail _ (List.Mem.head _))), (List.forall_mem_cons.mpr ⟨(List.Mem.tail _ (List.Mem.tail _ (List.Mem.tail _ (List.Mem.head _)))), (List.forall_mem_cons.mpr ⟨(List.Mem.tail _ (List.Mem.tail _ (List.Mem.tail _ (List.Mem.tail _ (List.Mem.head _))))), (List.forall_mem_cons.mpr ⟨(List.Mem.tail _ (List.Mem.tail _ (List.Mem.tail _ (List.Mem.tail _ (List.Mem.tail _ (List.Mem.head _)))))), (List.forall_mem_cons.mpr ⟨(List.Mem.tail _ (List.Mem.head _)), (List.forall_mem_cons.mpr ⟨(List.Mem.head _), (fun q h => absurd h List.not_mem_nil)⟩)⟩)⟩)⟩)⟩)⟩) ?_
              refine L114 ((128 - (64 * (x / 64)) : Int).toNat + 1) s31 x y z 0 (64 * (x / 64)) Is31 Gs31 (pnq_s (pnq_0 (f := pfM s) (by omega) (fun c h0 h1 q => by unfold bxC at q; omega)) rfl (show pfM s = pfM s31 from (funext aws31_228).symm)) (by first | exact ⟨And.intro (by decide) (And.intro (by decide) (by decide)), oq_3b5755f7 g34 hps31 g9 b8.1 hps6 vs2, oq_60648b5f g34 hps31 g9 b8.1 hps6 vs2, And.intro (by decide) (by decide), oq_7ef9130d g34 b33.1 hps31 g9 hps6 vs2⟩ | omega) (Nat.lt_succ_self _) ?_
              intro s35 x36 x37 Is35 Fs35 Qs35 hs35
              have b38 : (0 : Int) ≤ iI s35 73 ∧ iI s35 73 ≤ 3 := Is35.1 73
              refine z_load X (x := x36) (show cdA 235 214 = some (.iload 4, 2, 0, 0, 0) from rfl) (List.Mem.tail _ (List.Mem.tail _ (List.Mem.tail _ (List.Mem.tail _ (List.Mem.head _))))) ?_
              exact w_iret X.1 q hRt rfl (ax_d X (show cdA 235 216 = some (.ireturn, 1, 0, 0, 0) from rfl)) (Nat.zero_le _) (Nat.zero_le _) ⟨_, rfl, Is35, Fs35, x36, rfl, ⟨by first | exact oq_fa4e5087 hs35.2.1.1 | omega, by first | exact oq_ba739599 hs35.2.2.1 hs35.2.1.2 hs35.1.1.2.1 | omega⟩, Or.inl ⟨by first | exact ⟨And.intro (hs35.1.1.1) (And.intro (hs35.1.1.2.1) (And.intro (hs35.1.1.2.2.1) (hs35.1.1.2.2.2))), And.intro (hs35.1.2.1.1) (hs35.1.2.1.2), hs35.1.2.2.1, hs35.1.2.2.2.1, hs35.1.2.2.2.2⟩ | omega, by first | exact hs35.2.2.2 | omega, pnq_z Qs35 (by omega) (by omega) (fun c hc q => by unfold bxC at q; omega)⟩⟩
            ·
              refine z_const X (show cdA 235 100 = some (.iconst 0, 1, 0, 0, 0) from rfl) ?_
              exact w_iret X.1 q hRt rfl (ax_d X (show cdA 235 101 = some (.ireturn, 1, 0, 0, 0) from rfl)) (Nat.zero_le _) (Nat.zero_le _) ⟨_, rfl, Is31, Gs31, 0, rfl, (by decide), Or.inr ⟨by first | exact oq_adc32970 g9 hps6 vs2 | omega, aws31_228⟩⟩
          ·
            refine z_load_n X (x := x) (show cdA 235 71 = some (.iload_n 1, 1, 0, 0, 0) from rfl) (List.Mem.tail _ (List.Mem.head _)) ?_
            refine z_bipush X (show cdA 235 72 = some (.bipush 8, 2, 0, 0, 8) from rfl) ?_
            refine z_quot X (show cdA 235 74 = some (.idiv, 1, 0, 0, 0) from rfl) (by first | exact oq_674898f9 g9 hps6 vs2 | omega) ⟨by first | exact p0.1 | omega, by first | exact p0.2 | omega⟩ (by decide) (by decide) ?_
            refine z_bipush X (show cdA 235 75 = some (.bipush 8, 2, 0, 0, 8) from rfl) ?_
            refine z_mod X (show cdA 235 77 = some (.irem, 1, 0, 0, 0) from rfl) (by first | exact oq_ddbc3879 g9 hps6 vs2 | omega) ⟨by first | exact oq_186a3934 p0.1 | omega, by first | exact oq_2590a617 p0.2 | omega⟩ (by decide) (by decide) ?_
            refine z_load_n X (x := y) (show cdA 235 78 = some (.iload_n 2, 1, 0, 0, 0) from rfl) (List.Mem.tail _ (List.Mem.tail _ (List.Mem.head _))) ?_
            refine z_bipush X (show cdA 235 79 = some (.bipush 8, 2, 0, 0, 8) from rfl) ?_
            refine z_quot X (show cdA 235 81 = some (.idiv, 1, 0, 0, 0) from rfl) (by first | exact oq_674898f9 g9 hps6 vs2 | omega) ⟨by first | exact p1.1 | omega, by first | exact p1.2 | omega⟩ (by decide) (by decide) ?_
            refine z_bipush X (show cdA 235 82 = some (.bipush 8, 2, 0, 0, 8) from rfl) ?_
            refine z_mod X (show cdA 235 84 = some (.irem, 1, 0, 0, 0) from rfl) (by first | exact oq_ddbc3879 g9 hps6 vs2 | omega) ⟨by first | exact oq_186a3934 p1.1 | omega, by first | exact oq_2590a617 p1.2 | omega⟩ (by decide) (by decide) ?_
            refine z_icmp_le X (t := 92) (show cdA 235 85 = some (.if_icmp .le 7, 3, 5, 0, 0) from rfl) (by decide) ⟨by first | exact oq_452e8fda | omega, by first | exact oq_267eaf70 | omega⟩ ⟨by first | exact oq_452e8fda | omega, by first | exact oq_267eaf70 | omega⟩ (fun g39 => ?_) (fun g39 => ?_)
            ·
              refine z_const X (show cdA 235 92 = some (.iconst 0, 1, 0, 0, 0) from rfl) ?_
              refine z_const X (show cdA 235 93 = some (.iconst 2, 1, 0, 0, 0) from rfl) ?_
              refine z_callV X 179 (rm := rmN 187) (As := [.int (Int32.ofInt 0), .int (Int32.ofInt 2)]) (st := []) (show cdA 235 94 = some (.invokevirtual 229, 3, 187, 0, 0) from rfl) rfl (by decide) rfl (by rw [E.1, E.2.1, E.2.2.1]; exact k_bad2 G Is6 (by first | exact Or.inl (by decide) | omega) (by first | exact ⟨by decide, by decide⟩ | omega)) ⟨by rw [E.2.2.2]; exact (show (rmN 187).frames + 1 ≤ (rmN 235).frames by decide), by rw [E.2.2.2]; exact (show 8 + (mNL (miB 187) + 11) + (rmN 187).locals ≤ (rmN 235).locals by decide), by rw [E.2.2.2]; exact (show 0 + (rmN 187).cells ≤ (rmN 235).cells by decide), by rw [E.2.2.2]; exact (show 0 + (rmN 187).slots ≤ (rmN 235).slots by decide)⟩ (Nat.le_of_ble_eq_true rfl) (fun vv s40 hq => ?_) (fun ee s40 hq => ?_)
              rotate_left
              · obtain ⟨Is40, Fs40, e41, hv, hrs40, hps40⟩ := hq; cases hv
              obtain ⟨Is40, Fs40, e41, hv, hrs40, hps40⟩ := hq
              cases hv
              have Gs40 := fm_ts Gs6 Fs40 (by decide) (by decide)
              have b42 : (0 : Int) ≤ iI s40 73 ∧ iI s40 73 ≤ 3 := Is40.1 73
              have aws40_228 : SAM 228 s s40 := sam_ts aws6_228 (sam_fm Fs40 (by decide))
              show WS k 97 [(0, .ref (A 179)), (1, .int (Int32.ofInt x)), (2, .int (Int32.ofInt y)), (3, .int (Int32.ofInt z))] [.int (Int32.ofInt e41)] (Wd A dT s40) 0 0
              refine z_if_eq X (t := 102) (show cdA 235 97 = some (.ifCond .eq 5, 3, 0, 0, 0) from rfl) (by decide) hrs40 (fun g43 => ?_) (fun g43 => ?_)
              ·
                refine z_const X (show cdA 235 102 = some (.iconst 0, 1, 0, 0, 0) from rfl) ?_
                refine z_store X (lv' := [(4, .int (Int32.ofInt 0)), (0, .ref (A 179)), (1, .int (Int32.ofInt x)), (2, .int (Int32.ofInt y)), (3, .int (Int32.ofInt z))]) (show cdA 235 103 = some (.istore 4, 2, 0, 0, 0) from rfl) (by decide) (fun _ h => h) ?_
                refine z_bipush X (show cdA 235 105 = some (.bipush 64, 2, 0, 0, 64) from rfl) ?_
                refine z_load_n X (x := x) (show cdA 235 107 = some (.iload_n 1, 1, 0, 0, 0) from rfl) (List.Mem.tail _ (List.Mem.tail _ (List.Mem.head _))) ?_
                refine z_bipush X (show cdA 235 108 = some (.bipush 64, 2, 0, 0, 64) from rfl) ?_
                refine z_quot X (show cdA 235 110 = some (.idiv, 1, 0, 0, 0) from rfl) (by first | exact oq_674898f9 g9 hps6 vs2 | omega) ⟨by first | exact p0.1 | omega, by first | exact p0.2 | omega⟩ (by decide) (by decide) ?_
                refine z_mul X (show cdA 235 111 = some (.imul, 1, 0, 0, 0) from rfl) ?_
                refine z_store X (lv' := [(5, .int (Int32.ofInt (64 * (x / 64)))), (4, .int (Int32.ofInt 0)), (0, .ref (A 179)), (1, .int (Int32.ofInt x)), (2, .int (Int32.ofInt y)), (3, .int (Int32.ofInt z))]) (show cdA 235 112 = some (.istore 5, 2, 0, 0, 0) from rfl) (by decide) (fun _ h => h) ?_
                refine WS_lv (lv := [(0, .ref (A 179)), (1, .int (Int32.ofInt x)), (2, .int (Int32.ofInt y)), (3, .int (Int32.ofInt z)), (4, .int (Int32.ofInt 0)), (5, .int (Int32.ofInt (64 * (x / 64))))]) (List.forall_mem_cons.mpr ⟨(List.Mem.tail _ (List.Mem.tail _ (List.Mem.head _))), (List.forall_mem_cons.mpr ⟨(List.Mem.tail _ (List.Mem.tail _ (List.Mem.tail _ (List.Mem.head _)))), (List.forall_mem_cons.mpr ⟨(List.Mem.tail _ (List.Mem.tail _ (List.Mem.tail _ (List.Mem.tail _ (List.Mem.head _))))), (List.forall_mem_cons.mpr ⟨(List.Mem.tail _ (List.Mem.tail _ (List.Mem.tail _ (List.Mem.tail _ (List.Mem.tail _ (List.Mem.head _)))))), (List.forall_mem_cons.mpr ⟨(List.Mem.tail _ (List.Mem.head _)), (List.forall_mem_cons.mpr ⟨(List.Mem.head _), (fun q h => absurd h List.not_mem_nil)⟩)⟩)⟩)⟩)⟩)⟩) ?_
                refine L114 ((128 - (64 * (x / 64)) : Int).toNat + 1) s40 x y z 0 (64 * (x / 64)) Is40 Gs40 (pnq_s (pnq_0 (f := pfM s) (by omega) (fun c h0 h1 q => by unfold bxC at q; omega)) rfl (show pfM s = pfM s40 from (funext aws40_228).symm)) (by first | exact ⟨And.intro (by decide) (And.intro (by decide) (by decide)), oq_5d07a74c g9 hps6 vs2, oq_bf521bfa g9 hps6 vs2, And.intro (by decide) (by decide), oq_1b47d00d b42.1 hps40 g9 hps6 vs2⟩ | omega) (Nat.lt_succ_self _) ?_
                intro s44 x45 x46 Is44 Fs44 Qs44 hs44
                have b47 : (0 : Int) ≤ iI s44 73 ∧ iI s44 73 ≤ 3 := Is44.1 73
                refine z_load X (x := x45) (show cdA 235 214 = some (.iload 4, 2, 0, 0, 0) from rfl) (List.Mem.tail _ (List.Mem.tail _ (List.Mem.tail _ (List.Mem.tail _ (List.Mem.head _))))) ?_
                exact w_iret X.1 q hRt rfl (ax_d X (show cdA 235 216 = some (.ireturn, 1, 0, 0, 0) from rfl)) (Nat.zero_le _) (Nat.zero_le _) ⟨_, rfl, Is44, Fs44, x45, rfl, ⟨by first | exact oq_fa4e5087 hs44.2.1.1 | omega, by first | exact oq_ba739599 hs44.2.2.1 hs44.2.1.2 hs44.1.1.2.1 | omega⟩, Or.inl ⟨by first | exact ⟨And.intro (hs44.1.1.1) (And.intro (hs44.1.1.2.1) (And.intro (hs44.1.1.2.2.1) (hs44.1.1.2.2.2))), And.intro (hs44.1.2.1.1) (hs44.1.2.1.2), hs44.1.2.2.1, hs44.1.2.2.2.1, hs44.1.2.2.2.2⟩ | omega, by first | exact hs44.2.2.2 | omega, pnq_z Qs44 (by omega) (by omega) (fun c hc q => by unfold bxC at q; omega)⟩⟩
              ·
                refine z_const X (show cdA 235 100 = some (.iconst 0, 1, 0, 0, 0) from rfl) ?_
                exact w_iret X.1 q hRt rfl (ax_d X (show cdA 235 101 = some (.ireturn, 1, 0, 0, 0) from rfl)) (Nat.zero_le _) (Nat.zero_le _) ⟨_, rfl, Is40, Gs40, 0, rfl, (by decide), Or.inr ⟨by first | exact oq_14215017 g43 hps40 g9 b8.1 hps6 vs2 | omega, aws40_228⟩⟩
            ·
              refine z_const X (show cdA 235 88 = some (.iconst 1, 1, 0, 0, 0) from rfl) ?_
              refine z_goto X (t := 93) (show cdA 235 89 = some (.goto 4, 3, 0, 0, 0) from rfl) (by decide) ?_
              refine z_const X (show cdA 235 93 = some (.iconst 2, 1, 0, 0, 0) from rfl) ?_
              refine z_callV X 179 (rm := rmN 187) (As := [.int (Int32.ofInt 1), .int (Int32.ofInt 2)]) (st := []) (show cdA 235 94 = some (.invokevirtual 229, 3, 187, 0, 0) from rfl) rfl (by decide) rfl (by rw [E.1, E.2.1, E.2.2.1]; exact k_bad2 G Is6 (by first | exact Or.inr (by decide) | omega) (by first | exact ⟨by decide, by decide⟩ | omega)) ⟨by rw [E.2.2.2]; exact (show (rmN 187).frames + 1 ≤ (rmN 235).frames by decide), by rw [E.2.2.2]; exact (show 8 + (mNL (miB 187) + 11) + (rmN 187).locals ≤ (rmN 235).locals by decide), by rw [E.2.2.2]; exact (show 0 + (rmN 187).cells ≤ (rmN 235).cells by decide), by rw [E.2.2.2]; exact (show 0 + (rmN 187).slots ≤ (rmN 235).slots by decide)⟩ (Nat.le_of_ble_eq_true rfl) (fun vv s48 hq => ?_) (fun ee s48 hq => ?_)
              rotate_left
              · obtain ⟨Is48, Fs48, e49, hv, hrs48, hps48⟩ := hq; cases hv
              obtain ⟨Is48, Fs48, e49, hv, hrs48, hps48⟩ := hq
              cases hv
              have Gs48 := fm_ts Gs6 Fs48 (by decide) (by decide)
              have b50 : (0 : Int) ≤ iI s48 73 ∧ iI s48 73 ≤ 3 := Is48.1 73
              have aws48_228 : SAM 228 s s48 := sam_ts aws6_228 (sam_fm Fs48 (by decide))
              show WS k 97 [(0, .ref (A 179)), (1, .int (Int32.ofInt x)), (2, .int (Int32.ofInt y)), (3, .int (Int32.ofInt z))] [.int (Int32.ofInt e49)] (Wd A dT s48) 0 0
              refine z_if_eq X (t := 102) (show cdA 235 97 = some (.ifCond .eq 5, 3, 0, 0, 0) from rfl) (by decide) hrs48 (fun g51 => ?_) (fun g51 => ?_)
              ·
                refine z_const X (show cdA 235 102 = some (.iconst 0, 1, 0, 0, 0) from rfl) ?_
                refine z_store X (lv' := [(4, .int (Int32.ofInt 0)), (0, .ref (A 179)), (1, .int (Int32.ofInt x)), (2, .int (Int32.ofInt y)), (3, .int (Int32.ofInt z))]) (show cdA 235 103 = some (.istore 4, 2, 0, 0, 0) from rfl) (by decide) (fun _ h => h) ?_
                refine z_bipush X (show cdA 235 105 = some (.bipush 64, 2, 0, 0, 64) from rfl) ?_
                refine z_load_n X (x := x) (show cdA 235 107 = some (.iload_n 1, 1, 0, 0, 0) from rfl) (List.Mem.tail _ (List.Mem.tail _ (List.Mem.head _))) ?_
                refine z_bipush X (show cdA 235 108 = some (.bipush 64, 2, 0, 0, 64) from rfl) ?_
                refine z_quot X (show cdA 235 110 = some (.idiv, 1, 0, 0, 0) from rfl) (by first | exact oq_7bca4f44 g51 hps48 g9 b8.1 hps6 vs2 | omega) ⟨by first | exact p0.1 | omega, by first | exact p0.2 | omega⟩ (by decide) (by decide) ?_
                refine z_mul X (show cdA 235 111 = some (.imul, 1, 0, 0, 0) from rfl) ?_
                refine z_store X (lv' := [(5, .int (Int32.ofInt (64 * (x / 64)))), (4, .int (Int32.ofInt 0)), (0, .ref (A 179)), (1, .int (Int32.ofInt x)), (2, .int (Int32.ofInt y)), (3, .int (Int32.ofInt z))]) (show cdA 235 112 = some (.istore 5, 2, 0, 0, 0) from rfl) (by decide) (fun _ h => h) ?_
                refine WS_lv (lv := [(0, .ref (A 179)), (1, .int (Int32.ofInt x)), (2, .int (Int32.ofInt y)), (3, .int (Int32.ofInt z)), (4, .int (Int32.ofInt 0)), (5, .int (Int32.ofInt (64 * (x / 64))))]) (List.forall_mem_cons.mpr ⟨(List.Mem.tail _ (List.Mem.tail _ (List.Mem.head _))), (List.forall_mem_cons.mpr ⟨(List.Mem.tail _ (List.Mem.tail _ (List.Mem.tail _ (List.Mem.head _)))), (List.forall_mem_cons.mpr ⟨(List.Mem.tail _ (List.Mem.tail _ (List.Mem.tail _ (List.Mem.tail _ (List.Mem.head _))))), (List.forall_mem_cons.mpr ⟨(List.Mem.tail _ (List.Mem.tail _ (List.Mem.tail _ (List.Mem.tail _ (List.Mem.tail _ (List.Mem.head _)))))), (List.forall_mem_cons.mpr ⟨(List.Mem.tail _ (List.Mem.head _)), (List.forall_mem_cons.mpr ⟨(List.Mem.head _), (fun q h => absurd h List.not_mem_nil)⟩)⟩)⟩)⟩)⟩)⟩) ?_
                refine L114 ((128 - (64 * (x / 64)) : Int).toNat + 1) s48 x y z 0 (64 * (x / 64)) Is48 Gs48 (pnq_s (pnq_0 (f := pfM s) (by omega) (fun c h0 h1 q => by unfold bxC at q; omega)) rfl (show pfM s = pfM s48 from (funext aws48_228).symm)) (by first | exact ⟨And.intro (by decide) (And.intro (by decide) (by decide)), oq_3b5755f7 g51 hps48 g9 b8.1 hps6 vs2, oq_60648b5f g51 hps48 g9 b8.1 hps6 vs2, And.intro (by decide) (by decide), oq_7ef9130d g51 b50.1 hps48 g9 hps6 vs2⟩ | omega) (Nat.lt_succ_self _) ?_
                intro s52 x53 x54 Is52 Fs52 Qs52 hs52
                have b55 : (0 : Int) ≤ iI s52 73 ∧ iI s52 73 ≤ 3 := Is52.1 73
                refine z_load X (x := x53) (show cdA 235 214 = some (.iload 4, 2, 0, 0, 0) from rfl) (List.Mem.tail _ (List.Mem.tail _ (List.Mem.tail _ (List.Mem.tail _ (List.Mem.head _))))) ?_
                exact w_iret X.1 q hRt rfl (ax_d X (show cdA 235 216 = some (.ireturn, 1, 0, 0, 0) from rfl)) (Nat.zero_le _) (Nat.zero_le _) ⟨_, rfl, Is52, Fs52, x53, rfl, ⟨by first | exact oq_fa4e5087 hs52.2.1.1 | omega, by first | exact oq_ba739599 hs52.2.2.1 hs52.2.1.2 hs52.1.1.2.1 | omega⟩, Or.inl ⟨by first | exact ⟨And.intro (hs52.1.1.1) (And.intro (hs52.1.1.2.1) (And.intro (hs52.1.1.2.2.1) (hs52.1.1.2.2.2))), And.intro (hs52.1.2.1.1) (hs52.1.2.1.2), hs52.1.2.2.1, hs52.1.2.2.2.1, hs52.1.2.2.2.2⟩ | omega, by first | exact hs52.2.2.2 | omega, pnq_z Qs52 (by omega) (by omega) (fun c hc q => by unfold bxC at q; omega)⟩⟩
              ·
                refine z_const X (show cdA 235 100 = some (.iconst 0, 1, 0, 0, 0) from rfl) ?_
                exact w_iret X.1 q hRt rfl (ax_d X (show cdA 235 101 = some (.ireturn, 1, 0, 0, 0) from rfl)) (Nat.zero_le _) (Nat.zero_le _) ⟨_, rfl, Is48, Gs48, 0, rfl, (by decide), Or.inr ⟨by first | exact oq_adc32970 g9 hps6 vs2 | omega, aws48_228⟩⟩
  ·
    refine z_load_n X (x := y) (show cdA 235 16 = some (.iload_n 2, 1, 0, 0, 0) from rfl) (List.Mem.tail _ (List.Mem.tail _ (List.Mem.head _))) ?_
    refine z_const X (show cdA 235 17 = some (.iconst 0, 1, 0, 0, 0) from rfl) ?_
    refine z_bipush X (show cdA 235 18 = some (.bipush 127, 2, 0, 0, 127) from rfl) ?_
    refine z_callS X (rm := rmN 188) (As := [.int (Int32.ofInt y), .int (Int32.ofInt 0), .int (Int32.ofInt 127)]) (st := [.ref (A 179)]) (show cdA 235 20 = some (.invokestatic 209, 3, 188, 1, 0) from rfl) rfl (by rw [E.1, E.2.1, E.2.2.1]; exact k_in2 G Is2 (by first | exact ⟨p1.1, p1.2⟩ | omega) (by first | exact ⟨by decide, by decide⟩ | omega) (by first | exact ⟨by decide, by decide⟩ | omega)) ⟨by rw [E.2.2.2]; exact (show (rmN 188).frames + 1 ≤ (rmN 235).frames by decide), by rw [E.2.2.2]; exact (show 8 + (mNL (miB 188) + 11) + (rmN 188).locals ≤ (rmN 235).locals by decide), by rw [E.2.2.2]; exact (show 0 + (rmN 188).cells ≤ (rmN 235).cells by decide), by rw [E.2.2.2]; exact (show 0 + (rmN 188).slots ≤ (rmN 235).slots by decide)⟩ (Nat.le_of_ble_eq_true rfl) (fun vv s56 hq => ?_) (fun ee s56 hq => ?_)
    rotate_left
    · obtain ⟨rfl, e57, hv, hrs56, hps56⟩ := hq; cases hv
    obtain ⟨rfl, e57, hv, hrs56, hps56⟩ := hq
    cases hv
    show WS k 23 [(0, .ref (A 179)), (1, .int (Int32.ofInt x)), (2, .int (Int32.ofInt y)), (3, .int (Int32.ofInt z))] [.int (Int32.ofInt e57), .ref (A 179)] (Wd A dT s2) 0 0
    refine z_if_ne X (t := 30) (show cdA 235 23 = some (.ifCond .ne 7, 3, 1, 0, 0) from rfl) (by decide) hrs56 (fun g58 => ?_) (fun g58 => ?_)
    ·
      refine z_const X (show cdA 235 30 = some (.iconst 0, 1, 0, 0, 0) from rfl) ?_
      refine z_const X (show cdA 235 31 = some (.iconst 1, 1, 0, 0, 0) from rfl) ?_
      refine z_callV X 179 (rm := rmN 187) (As := [.int (Int32.ofInt 0), .int (Int32.ofInt 1)]) (st := []) (show cdA 235 32 = some (.invokevirtual 229, 3, 187, 0, 0) from rfl) rfl (by decide) rfl (by rw [E.1, E.2.1, E.2.2.1]; exact k_bad2 G Is2 (by first | exact Or.inl (by decide) | omega) (by first | exact ⟨by decide, by decide⟩ | omega)) ⟨by rw [E.2.2.2]; exact (show (rmN 187).frames + 1 ≤ (rmN 235).frames by decide), by rw [E.2.2.2]; exact (show 8 + (mNL (miB 187) + 11) + (rmN 187).locals ≤ (rmN 235).locals by decide), by rw [E.2.2.2]; exact (show 0 + (rmN 187).cells ≤ (rmN 235).cells by decide), by rw [E.2.2.2]; exact (show 0 + (rmN 187).slots ≤ (rmN 235).slots by decide)⟩ (Nat.le_of_ble_eq_true rfl) (fun vv s59 hq => ?_) (fun ee s59 hq => ?_)
      rotate_left
      · obtain ⟨Is59, Fs59, e60, hv, hrs59, hps59⟩ := hq; cases hv
      obtain ⟨Is59, Fs59, e60, hv, hrs59, hps59⟩ := hq
      cases hv
      have Gs59 := fm_ts Fs2 Fs59 (by decide) (by decide)
      have b61 : (0 : Int) ≤ iI s59 73 ∧ iI s59 73 ≤ 3 := Is59.1 73
      have aws59_228 : SAM 228 s s59 := sam_ts aws2_228 (sam_fm Fs59 (by decide))
      show WS k 35 [(0, .ref (A 179)), (1, .int (Int32.ofInt x)), (2, .int (Int32.ofInt y)), (3, .int (Int32.ofInt z))] [.int (Int32.ofInt e60)] (Wd A dT s59) 0 0
      refine z_if_ne X (t := 100) (show cdA 235 35 = some (.ifCond .ne 65, 3, 1, 0, 0) from rfl) (by decide) hrs59 (fun g62 => ?_) (fun g62 => ?_)
      ·
        refine z_const X (show cdA 235 100 = some (.iconst 0, 1, 0, 0, 0) from rfl) ?_
        exact w_iret X.1 q hRt rfl (ax_d X (show cdA 235 101 = some (.ireturn, 1, 0, 0, 0) from rfl)) (Nat.zero_le _) (Nat.zero_le _) ⟨_, rfl, Is59, Gs59, 0, rfl, (by decide), Or.inr ⟨by first | exact oq_2f30b211 g62 hps59 vs2 | omega, aws59_228⟩⟩
      ·
        refine z_aload_n X (x := A 179) (show cdA 235 38 = some (.aload_n 0, 1, 0, 0, 0) from rfl) (List.Mem.head _) ?_
        refine z_load_n X (x := z) (show cdA 235 39 = some (.iload_n 3, 1, 0, 0, 0) from rfl) (List.Mem.tail _ (List.Mem.tail _ (List.Mem.tail _ (List.Mem.head _)))) ?_
        refine z_const X (show cdA 235 40 = some (.iconst (-1), 1, 0, 0, 0) from rfl) ?_
        refine z_bipush X (show cdA 235 41 = some (.bipush 7, 2, 0, 0, 7) from rfl) ?_
        refine z_callS X (rm := rmN 188) (As := [.int (Int32.ofInt z), .int (Int32.ofInt (-1)), .int (Int32.ofInt 7)]) (st := [.ref (A 179)]) (show cdA 235 43 = some (.invokestatic 209, 3, 188, 1, 0) from rfl) rfl (by rw [E.1, E.2.1, E.2.2.1]; exact k_in2 G Is59 (by first | exact ⟨p2.1, p2.2⟩ | omega) (by first | exact ⟨by decide, by decide⟩ | omega) (by first | exact ⟨by decide, by decide⟩ | omega)) ⟨by rw [E.2.2.2]; exact (show (rmN 188).frames + 1 ≤ (rmN 235).frames by decide), by rw [E.2.2.2]; exact (show 8 + (mNL (miB 188) + 11) + (rmN 188).locals ≤ (rmN 235).locals by decide), by rw [E.2.2.2]; exact (show 0 + (rmN 188).cells ≤ (rmN 235).cells by decide), by rw [E.2.2.2]; exact (show 0 + (rmN 188).slots ≤ (rmN 235).slots by decide)⟩ (Nat.le_of_ble_eq_true rfl) (fun vv s63 hq => ?_) (fun ee s63 hq => ?_)
        rotate_left
        · obtain ⟨rfl, e64, hv, hrs63, hps63⟩ := hq; cases hv
        obtain ⟨rfl, e64, hv, hrs63, hps63⟩ := hq
        cases hv
        show WS k 46 [(0, .ref (A 179)), (1, .int (Int32.ofInt x)), (2, .int (Int32.ofInt y)), (3, .int (Int32.ofInt z))] [.int (Int32.ofInt e64), .ref (A 179)] (Wd A dT s59) 0 0
        refine z_if_eq X (t := 88) (show cdA 235 46 = some (.ifCond .eq 42, 3, 0, 0, 0) from rfl) (by decide) hrs63 (fun g65 => ?_) (fun g65 => ?_)
        ·
          refine z_const X (show cdA 235 88 = some (.iconst 1, 1, 0, 0, 0) from rfl) ?_
          refine z_goto X (t := 93) (show cdA 235 89 = some (.goto 4, 3, 0, 0, 0) from rfl) (by decide) ?_
          refine z_const X (show cdA 235 93 = some (.iconst 2, 1, 0, 0, 0) from rfl) ?_
          refine z_callV X 179 (rm := rmN 187) (As := [.int (Int32.ofInt 1), .int (Int32.ofInt 2)]) (st := []) (show cdA 235 94 = some (.invokevirtual 229, 3, 187, 0, 0) from rfl) rfl (by decide) rfl (by rw [E.1, E.2.1, E.2.2.1]; exact k_bad2 G Is59 (by first | exact Or.inr (by decide) | omega) (by first | exact ⟨by decide, by decide⟩ | omega)) ⟨by rw [E.2.2.2]; exact (show (rmN 187).frames + 1 ≤ (rmN 235).frames by decide), by rw [E.2.2.2]; exact (show 8 + (mNL (miB 187) + 11) + (rmN 187).locals ≤ (rmN 235).locals by decide), by rw [E.2.2.2]; exact (show 0 + (rmN 187).cells ≤ (rmN 235).cells by decide), by rw [E.2.2.2]; exact (show 0 + (rmN 187).slots ≤ (rmN 235).slots by decide)⟩ (Nat.le_of_ble_eq_true rfl) (fun vv s66 hq => ?_) (fun ee s66 hq => ?_)
          rotate_left
          · obtain ⟨Is66, Fs66, e67, hv, hrs66, hps66⟩ := hq; cases hv
          obtain ⟨Is66, Fs66, e67, hv, hrs66, hps66⟩ := hq
          cases hv
          have Gs66 := fm_ts Gs59 Fs66 (by decide) (by decide)
          have b68 : (0 : Int) ≤ iI s66 73 ∧ iI s66 73 ≤ 3 := Is66.1 73
          have aws66_228 : SAM 228 s s66 := sam_ts aws59_228 (sam_fm Fs66 (by decide))
          show WS k 97 [(0, .ref (A 179)), (1, .int (Int32.ofInt x)), (2, .int (Int32.ofInt y)), (3, .int (Int32.ofInt z))] [.int (Int32.ofInt e67)] (Wd A dT s66) 0 0
          refine z_if_eq X (t := 102) (show cdA 235 97 = some (.ifCond .eq 5, 3, 0, 0, 0) from rfl) (by decide) hrs66 (fun g69 => ?_) (fun g69 => ?_)
          ·
            refine z_const X (show cdA 235 102 = some (.iconst 0, 1, 0, 0, 0) from rfl) ?_
            refine z_store X (lv' := [(4, .int (Int32.ofInt 0)), (0, .ref (A 179)), (1, .int (Int32.ofInt x)), (2, .int (Int32.ofInt y)), (3, .int (Int32.ofInt z))]) (show cdA 235 103 = some (.istore 4, 2, 0, 0, 0) from rfl) (by decide) (fun _ h => h) ?_
            refine z_bipush X (show cdA 235 105 = some (.bipush 64, 2, 0, 0, 64) from rfl) ?_
            refine z_load_n X (x := x) (show cdA 235 107 = some (.iload_n 1, 1, 0, 0, 0) from rfl) (List.Mem.tail _ (List.Mem.tail _ (List.Mem.head _))) ?_
            refine z_bipush X (show cdA 235 108 = some (.bipush 64, 2, 0, 0, 64) from rfl) ?_
            refine z_quot X (show cdA 235 110 = some (.idiv, 1, 0, 0, 0) from rfl) (by first | exact oq_77708b6d g5 hps3 | omega) ⟨by first | exact p0.1 | omega, by first | exact p0.2 | omega⟩ (by decide) (by decide) ?_
            refine z_mul X (show cdA 235 111 = some (.imul, 1, 0, 0, 0) from rfl) ?_
            refine z_store X (lv' := [(5, .int (Int32.ofInt (64 * (x / 64)))), (4, .int (Int32.ofInt 0)), (0, .ref (A 179)), (1, .int (Int32.ofInt x)), (2, .int (Int32.ofInt y)), (3, .int (Int32.ofInt z))]) (show cdA 235 112 = some (.istore 5, 2, 0, 0, 0) from rfl) (by decide) (fun _ h => h) ?_
            refine WS_lv (lv := [(0, .ref (A 179)), (1, .int (Int32.ofInt x)), (2, .int (Int32.ofInt y)), (3, .int (Int32.ofInt z)), (4, .int (Int32.ofInt 0)), (5, .int (Int32.ofInt (64 * (x / 64))))]) (List.forall_mem_cons.mpr ⟨(List.Mem.tail _ (List.Mem.tail _ (List.Mem.head _))), (List.forall_mem_cons.mpr ⟨(List.Mem.tail _ (List.Mem.tail _ (List.Mem.tail _ (List.Mem.head _)))), (List.forall_mem_cons.mpr ⟨(List.Mem.tail _ (List.Mem.tail _ (List.Mem.tail _ (List.Mem.tail _ (List.Mem.head _))))), (List.forall_mem_cons.mpr ⟨(List.Mem.tail _ (List.Mem.tail _ (List.Mem.tail _ (List.Mem.tail _ (List.Mem.tail _ (List.Mem.head _)))))), (List.forall_mem_cons.mpr ⟨(List.Mem.tail _ (List.Mem.head _)), (List.forall_mem_cons.mpr ⟨(List.Mem.head _), (fun q h => absurd h List.not_mem_nil)⟩)⟩)⟩)⟩)⟩)⟩) ?_
            refine L114 ((128 - (64 * (x / 64)) : Int).toNat + 1) s66 x y z 0 (64 * (x / 64)) Is66 Gs66 (pnq_s (pnq_0 (f := pfM s) (by omega) (fun c h0 h1 q => by unfold bxC at q; omega)) rfl (show pfM s = pfM s66 from (funext aws66_228).symm)) (by first | exact ⟨And.intro (by decide) (And.intro (by decide) (by decide)), oq_f827cc9d g69 hps66 b61.1 hps59 vs2, oq_94dce2ce g69 hps66 b61.1 hps59 vs2, And.intro (by decide) (by decide), oq_fb4755ef g69 b68.1 hps66 hps59 vs2⟩ | omega) (Nat.lt_succ_self _) ?_
            intro s70 x71 x72 Is70 Fs70 Qs70 hs70
            have b73 : (0 : Int) ≤ iI s70 73 ∧ iI s70 73 ≤ 3 := Is70.1 73
            refine z_load X (x := x71) (show cdA 235 214 = some (.iload 4, 2, 0, 0, 0) from rfl) (List.Mem.tail _ (List.Mem.tail _ (List.Mem.tail _ (List.Mem.tail _ (List.Mem.head _))))) ?_
            exact w_iret X.1 q hRt rfl (ax_d X (show cdA 235 216 = some (.ireturn, 1, 0, 0, 0) from rfl)) (Nat.zero_le _) (Nat.zero_le _) ⟨_, rfl, Is70, Fs70, x71, rfl, ⟨by first | exact oq_fa4e5087 hs70.2.1.1 | omega, by first | exact oq_ba739599 hs70.2.2.1 hs70.2.1.2 hs70.1.1.2.1 | omega⟩, Or.inl ⟨by first | exact ⟨And.intro (hs70.1.1.1) (And.intro (hs70.1.1.2.1) (And.intro (hs70.1.1.2.2.1) (hs70.1.1.2.2.2))), And.intro (hs70.1.2.1.1) (hs70.1.2.1.2), hs70.1.2.2.1, hs70.1.2.2.2.1, hs70.1.2.2.2.2⟩ | omega, by first | exact hs70.2.2.2 | omega, pnq_z Qs70 (by omega) (by omega) (fun c hc q => by unfold bxC at q; omega)⟩⟩
          ·
            refine z_const X (show cdA 235 100 = some (.iconst 0, 1, 0, 0, 0) from rfl) ?_
            exact w_iret X.1 q hRt rfl (ax_d X (show cdA 235 101 = some (.ireturn, 1, 0, 0, 0) from rfl)) (Nat.zero_le _) (Nat.zero_le _) ⟨_, rfl, Is66, Gs66, 0, rfl, (by decide), Or.inr ⟨by first | exact oq_85cd635c g69 hps66 g65 hps63 b61.1 hps59 g58 hps56 g5 hps3 vs2 | omega, aws66_228⟩⟩
        ·
          refine z_load_n X (x := x) (show cdA 235 49 = some (.iload_n 1, 1, 0, 0, 0) from rfl) (List.Mem.tail _ (List.Mem.head _)) ?_
          refine z_bipush X (show cdA 235 50 = some (.bipush 64, 2, 0, 0, 64) from rfl) ?_
          refine z_quot X (show cdA 235 52 = some (.idiv, 1, 0, 0, 0) from rfl) (by first | exact oq_77708b6d g5 hps3 | omega) ⟨by first | exact p0.1 | omega, by first | exact p0.2 | omega⟩ (by decide) (by decide) ?_
          refine z_load_n X (x := y) (show cdA 235 53 = some (.iload_n 2, 1, 0, 0, 0) from rfl) (List.Mem.tail _ (List.Mem.tail _ (List.Mem.head _))) ?_
          refine z_bipush X (show cdA 235 54 = some (.bipush 64, 2, 0, 0, 64) from rfl) ?_
          refine z_quot X (show cdA 235 56 = some (.idiv, 1, 0, 0, 0) from rfl) (by first | exact oq_77708b6d g58 hps56 | omega) ⟨by first | exact p1.1 | omega, by first | exact p1.2 | omega⟩ (by decide) (by decide) ?_
          refine z_icmp_ne X (t := 88) (show cdA 235 57 = some (.if_icmp .ne 31, 3, 1, 0, 0) from rfl) (by decide) ⟨by first | exact oq_f457fe4f p0.1 | omega, by first | exact oq_e42dd4bd p0.2 | omega⟩ ⟨by first | exact oq_f457fe4f p1.1 | omega, by first | exact oq_e42dd4bd p1.2 | omega⟩ (fun g74 => ?_) (fun g74 => ?_)
          ·
            refine z_const X (show cdA 235 88 = some (.iconst 1, 1, 0, 0, 0) from rfl) ?_
            refine z_goto X (t := 93) (show cdA 235 89 = some (.goto 4, 3, 0, 0, 0) from rfl) (by decide) ?_
            refine z_const X (show cdA 235 93 = some (.iconst 2, 1, 0, 0, 0) from rfl) ?_
            refine z_callV X 179 (rm := rmN 187) (As := [.int (Int32.ofInt 1), .int (Int32.ofInt 2)]) (st := []) (show cdA 235 94 = some (.invokevirtual 229, 3, 187, 0, 0) from rfl) rfl (by decide) rfl (by rw [E.1, E.2.1, E.2.2.1]; exact k_bad2 G Is59 (by first | exact Or.inr (by decide) | omega) (by first | exact ⟨by decide, by decide⟩ | omega)) ⟨by rw [E.2.2.2]; exact (show (rmN 187).frames + 1 ≤ (rmN 235).frames by decide), by rw [E.2.2.2]; exact (show 8 + (mNL (miB 187) + 11) + (rmN 187).locals ≤ (rmN 235).locals by decide), by rw [E.2.2.2]; exact (show 0 + (rmN 187).cells ≤ (rmN 235).cells by decide), by rw [E.2.2.2]; exact (show 0 + (rmN 187).slots ≤ (rmN 235).slots by decide)⟩ (Nat.le_of_ble_eq_true rfl) (fun vv s75 hq => ?_) (fun ee s75 hq => ?_)
            rotate_left
            · obtain ⟨Is75, Fs75, e76, hv, hrs75, hps75⟩ := hq; cases hv
            obtain ⟨Is75, Fs75, e76, hv, hrs75, hps75⟩ := hq
            cases hv
            have Gs75 := fm_ts Gs59 Fs75 (by decide) (by decide)
            have b77 : (0 : Int) ≤ iI s75 73 ∧ iI s75 73 ≤ 3 := Is75.1 73
            have aws75_228 : SAM 228 s s75 := sam_ts aws59_228 (sam_fm Fs75 (by decide))
            show WS k 97 [(0, .ref (A 179)), (1, .int (Int32.ofInt x)), (2, .int (Int32.ofInt y)), (3, .int (Int32.ofInt z))] [.int (Int32.ofInt e76)] (Wd A dT s75) 0 0
            refine z_if_eq X (t := 102) (show cdA 235 97 = some (.ifCond .eq 5, 3, 0, 0, 0) from rfl) (by decide) hrs75 (fun g78 => ?_) (fun g78 => ?_)
            ·
              refine z_const X (show cdA 235 102 = some (.iconst 0, 1, 0, 0, 0) from rfl) ?_
              refine z_store X (lv' := [(4, .int (Int32.ofInt 0)), (0, .ref (A 179)), (1, .int (Int32.ofInt x)), (2, .int (Int32.ofInt y)), (3, .int (Int32.ofInt z))]) (show cdA 235 103 = some (.istore 4, 2, 0, 0, 0) from rfl) (by decide) (fun _ h => h) ?_
              refine z_bipush X (show cdA 235 105 = some (.bipush 64, 2, 0, 0, 64) from rfl) ?_
              refine z_load_n X (x := x) (show cdA 235 107 = some (.iload_n 1, 1, 0, 0, 0) from rfl) (List.Mem.tail _ (List.Mem.tail _ (List.Mem.head _))) ?_
              refine z_bipush X (show cdA 235 108 = some (.bipush 64, 2, 0, 0, 64) from rfl) ?_
              refine z_quot X (show cdA 235 110 = some (.idiv, 1, 0, 0, 0) from rfl) (by first | exact oq_77708b6d g5 hps3 | omega) ⟨by first | exact p0.1 | omega, by first | exact p0.2 | omega⟩ (by decide) (by decide) ?_
              refine z_mul X (show cdA 235 111 = some (.imul, 1, 0, 0, 0) from rfl) ?_
              refine z_store X (lv' := [(5, .int (Int32.ofInt (64 * (x / 64)))), (4, .int (Int32.ofInt 0)), (0, .ref (A 179)), (1, .int (Int32.ofInt x)), (2, .int (Int32.ofInt y)), (3, .int (Int32.ofInt z))]) (show cdA 235 112 = some (.istore 5, 2, 0, 0, 0) from rfl) (by decide) (fun _ h => h) ?_
              refine WS_lv (lv := [(0, .ref (A 179)), (1, .int (Int32.ofInt x)), (2, .int (Int32.ofInt y)), (3, .int (Int32.ofInt z)), (4, .int (Int32.ofInt 0)), (5, .int (Int32.ofInt (64 * (x / 64))))]) (List.forall_mem_cons.mpr ⟨(List.Mem.tail _ (List.Mem.tail _ (List.Mem.head _))), (List.forall_mem_cons.mpr ⟨(List.Mem.tail _ (List.Mem.tail _ (List.Mem.tail _ (List.Mem.head _)))), (List.forall_mem_cons.mpr ⟨(List.Mem.tail _ (List.Mem.tail _ (List.Mem.tail _ (List.Mem.tail _ (List.Mem.head _))))), (List.forall_mem_cons.mpr ⟨(List.Mem.tail _ (List.Mem.tail _ (List.Mem.tail _ (List.Mem.tail _ (List.Mem.tail _ (List.Mem.head _)))))), (List.forall_mem_cons.mpr ⟨(List.Mem.tail _ (List.Mem.head _)), (List.forall_mem_cons.mpr ⟨(List.Mem.head _), (fun q h => absurd h List.not_mem_nil)⟩)⟩)⟩)⟩)⟩)⟩) ?_
              refine L114 ((128 - (64 * (x / 64)) : Int).toNat + 1) s75 x y z 0 (64 * (x / 64)) Is75 Gs75 (pnq_s (pnq_0 (f := pfM s) (by omega) (fun c h0 h1 q => by unfold bxC at q; omega)) rfl (show pfM s = pfM s75 from (funext aws75_228).symm)) (by first | exact ⟨And.intro (by decide) (And.intro (by decide) (by decide)), oq_f827cc9d g78 hps75 b61.1 hps59 vs2, by omega, And.intro (by decide) (by decide), oq_fb4755ef g78 b77.1 hps75 hps59 vs2⟩ | omega) (Nat.lt_succ_self _) ?_
              intro s79 x80 x81 Is79 Fs79 Qs79 hs79
              have b82 : (0 : Int) ≤ iI s79 73 ∧ iI s79 73 ≤ 3 := Is79.1 73
              refine z_load X (x := x80) (show cdA 235 214 = some (.iload 4, 2, 0, 0, 0) from rfl) (List.Mem.tail _ (List.Mem.tail _ (List.Mem.tail _ (List.Mem.tail _ (List.Mem.head _))))) ?_
              exact w_iret X.1 q hRt rfl (ax_d X (show cdA 235 216 = some (.ireturn, 1, 0, 0, 0) from rfl)) (Nat.zero_le _) (Nat.zero_le _) ⟨_, rfl, Is79, Fs79, x80, rfl, ⟨by first | exact oq_fa4e5087 hs79.2.1.1 | omega, by first | exact oq_ba739599 hs79.2.2.1 hs79.2.1.2 hs79.1.1.2.1 | omega⟩, Or.inl ⟨by first | exact ⟨And.intro (hs79.1.1.1) (And.intro (hs79.1.1.2.1) (And.intro (hs79.1.1.2.2.1) (hs79.1.1.2.2.2))), And.intro (hs79.1.2.1.1) (hs79.1.2.1.2), hs79.1.2.2.1, hs79.1.2.2.2.1, hs79.1.2.2.2.2⟩ | omega, by first | exact hs79.2.2.2 | omega, pnq_z Qs79 (by omega) (by omega) (fun c hc q => by unfold bxC at q; omega)⟩⟩
            ·
              refine z_const X (show cdA 235 100 = some (.iconst 0, 1, 0, 0, 0) from rfl) ?_
              exact w_iret X.1 q hRt rfl (ax_d X (show cdA 235 101 = some (.ireturn, 1, 0, 0, 0) from rfl)) (Nat.zero_le _) (Nat.zero_le _) ⟨_, rfl, Is75, Gs75, 0, rfl, (by decide), Or.inr ⟨by omega, aws75_228⟩⟩
          ·
            refine z_load_n X (x := x) (show cdA 235 60 = some (.iload_n 1, 1, 0, 0, 0) from rfl) (List.Mem.tail _ (List.Mem.head _)) ?_
            refine z_bipush X (show cdA 235 61 = some (.bipush 8, 2, 0, 0, 8) from rfl) ?_
            refine z_mod X (show cdA 235 63 = some (.irem, 1, 0, 0, 0) from rfl) (by first | exact oq_77708b6d g5 hps3 | omega) ⟨by first | exact p0.1 | omega, by first | exact p0.2 | omega⟩ (by decide) (by decide) ?_
            refine z_load_n X (x := y) (show cdA 235 64 = some (.iload_n 2, 1, 0, 0, 0) from rfl) (List.Mem.tail _ (List.Mem.tail _ (List.Mem.head _))) ?_
            refine z_bipush X (show cdA 235 65 = some (.bipush 8, 2, 0, 0, 8) from rfl) ?_
            refine z_mod X (show cdA 235 67 = some (.irem, 1, 0, 0, 0) from rfl) (by first | exact oq_77708b6d g58 hps56 | omega) ⟨by first | exact p1.1 | omega, by first | exact p1.2 | omega⟩ (by decide) (by decide) ?_
            refine z_icmp_gt X (t := 88) (show cdA 235 68 = some (.if_icmp .gt 20, 3, 4, 0, 0) from rfl) (by decide) ⟨by first | exact oq_e86162eb | omega, by first | exact oq_70086759 | omega⟩ ⟨by first | exact oq_e86162eb | omega, by first | exact oq_70086759 | omega⟩ (fun g83 => ?_) (fun g83 => ?_)
            ·
              refine z_const X (show cdA 235 88 = some (.iconst 1, 1, 0, 0, 0) from rfl) ?_
              refine z_goto X (t := 93) (show cdA 235 89 = some (.goto 4, 3, 0, 0, 0) from rfl) (by decide) ?_
              refine z_const X (show cdA 235 93 = some (.iconst 2, 1, 0, 0, 0) from rfl) ?_
              refine z_callV X 179 (rm := rmN 187) (As := [.int (Int32.ofInt 1), .int (Int32.ofInt 2)]) (st := []) (show cdA 235 94 = some (.invokevirtual 229, 3, 187, 0, 0) from rfl) rfl (by decide) rfl (by rw [E.1, E.2.1, E.2.2.1]; exact k_bad2 G Is59 (by first | exact Or.inr (by decide) | omega) (by first | exact ⟨by decide, by decide⟩ | omega)) ⟨by rw [E.2.2.2]; exact (show (rmN 187).frames + 1 ≤ (rmN 235).frames by decide), by rw [E.2.2.2]; exact (show 8 + (mNL (miB 187) + 11) + (rmN 187).locals ≤ (rmN 235).locals by decide), by rw [E.2.2.2]; exact (show 0 + (rmN 187).cells ≤ (rmN 235).cells by decide), by rw [E.2.2.2]; exact (show 0 + (rmN 187).slots ≤ (rmN 235).slots by decide)⟩ (Nat.le_of_ble_eq_true rfl) (fun vv s84 hq => ?_) (fun ee s84 hq => ?_)
              rotate_left
              · obtain ⟨Is84, Fs84, e85, hv, hrs84, hps84⟩ := hq; cases hv
              obtain ⟨Is84, Fs84, e85, hv, hrs84, hps84⟩ := hq
              cases hv
              have Gs84 := fm_ts Gs59 Fs84 (by decide) (by decide)
              have b86 : (0 : Int) ≤ iI s84 73 ∧ iI s84 73 ≤ 3 := Is84.1 73
              have aws84_228 : SAM 228 s s84 := sam_ts aws59_228 (sam_fm Fs84 (by decide))
              show WS k 97 [(0, .ref (A 179)), (1, .int (Int32.ofInt x)), (2, .int (Int32.ofInt y)), (3, .int (Int32.ofInt z))] [.int (Int32.ofInt e85)] (Wd A dT s84) 0 0
              refine z_if_eq X (t := 102) (show cdA 235 97 = some (.ifCond .eq 5, 3, 0, 0, 0) from rfl) (by decide) hrs84 (fun g87 => ?_) (fun g87 => ?_)
              ·
                refine z_const X (show cdA 235 102 = some (.iconst 0, 1, 0, 0, 0) from rfl) ?_
                refine z_store X (lv' := [(4, .int (Int32.ofInt 0)), (0, .ref (A 179)), (1, .int (Int32.ofInt x)), (2, .int (Int32.ofInt y)), (3, .int (Int32.ofInt z))]) (show cdA 235 103 = some (.istore 4, 2, 0, 0, 0) from rfl) (by decide) (fun _ h => h) ?_
                refine z_bipush X (show cdA 235 105 = some (.bipush 64, 2, 0, 0, 64) from rfl) ?_
                refine z_load_n X (x := x) (show cdA 235 107 = some (.iload_n 1, 1, 0, 0, 0) from rfl) (List.Mem.tail _ (List.Mem.tail _ (List.Mem.head _))) ?_
                refine z_bipush X (show cdA 235 108 = some (.bipush 64, 2, 0, 0, 64) from rfl) ?_
                refine z_quot X (show cdA 235 110 = some (.idiv, 1, 0, 0, 0) from rfl) (by first | exact oq_77708b6d g5 hps3 | omega) ⟨by first | exact p0.1 | omega, by first | exact p0.2 | omega⟩ (by decide) (by decide) ?_
                refine z_mul X (show cdA 235 111 = some (.imul, 1, 0, 0, 0) from rfl) ?_
                refine z_store X (lv' := [(5, .int (Int32.ofInt (64 * (x / 64)))), (4, .int (Int32.ofInt 0)), (0, .ref (A 179)), (1, .int (Int32.ofInt x)), (2, .int (Int32.ofInt y)), (3, .int (Int32.ofInt z))]) (show cdA 235 112 = some (.istore 5, 2, 0, 0, 0) from rfl) (by decide) (fun _ h => h) ?_
                refine WS_lv (lv := [(0, .ref (A 179)), (1, .int (Int32.ofInt x)), (2, .int (Int32.ofInt y)), (3, .int (Int32.ofInt z)), (4, .int (Int32.ofInt 0)), (5, .int (Int32.ofInt (64 * (x / 64))))]) (List.forall_mem_cons.mpr ⟨(List.Mem.tail _ (List.Mem.tail _ (List.Mem.head _))), (List.forall_mem_cons.mpr ⟨(List.Mem.tail _ (List.Mem.tail _ (List.Mem.tail _ (List.Mem.head _)))), (List.forall_mem_cons.mpr ⟨(List.Mem.tail _ (List.Mem.tail _ (List.Mem.tail _ (List.Mem.tail _ (List.Mem.head _))))), (List.forall_mem_cons.mpr ⟨(List.Mem.tail _ (List.Mem.tail _ (List.Mem.tail _ (List.Mem.tail _ (List.Mem.tail _ (List.Mem.head _)))))), (List.forall_mem_cons.mpr ⟨(List.Mem.tail _ (List.Mem.head _)), (List.forall_mem_cons.mpr ⟨(List.Mem.head _), (fun q h => absurd h List.not_mem_nil)⟩)⟩)⟩)⟩)⟩)⟩) ?_
                refine L114 ((128 - (64 * (x / 64)) : Int).toNat + 1) s84 x y z 0 (64 * (x / 64)) Is84 Gs84 (pnq_s (pnq_0 (f := pfM s) (by omega) (fun c h0 h1 q => by unfold bxC at q; omega)) rfl (show pfM s = pfM s84 from (funext aws84_228).symm)) (by first | exact ⟨And.intro (by decide) (And.intro (by decide) (by decide)), oq_f827cc9d g87 hps84 b61.1 hps59 vs2, oq_94dce2ce g87 hps84 b61.1 hps59 vs2, And.intro (by decide) (by decide), oq_fb4755ef g87 b86.1 hps84 hps59 vs2⟩ | omega) (Nat.lt_succ_self _) ?_
                intro s88 x89 x90 Is88 Fs88 Qs88 hs88
                have b91 : (0 : Int) ≤ iI s88 73 ∧ iI s88 73 ≤ 3 := Is88.1 73
                refine z_load X (x := x89) (show cdA 235 214 = some (.iload 4, 2, 0, 0, 0) from rfl) (List.Mem.tail _ (List.Mem.tail _ (List.Mem.tail _ (List.Mem.tail _ (List.Mem.head _))))) ?_
                exact w_iret X.1 q hRt rfl (ax_d X (show cdA 235 216 = some (.ireturn, 1, 0, 0, 0) from rfl)) (Nat.zero_le _) (Nat.zero_le _) ⟨_, rfl, Is88, Fs88, x89, rfl, ⟨by first | exact oq_fa4e5087 hs88.2.1.1 | omega, by first | exact oq_ba739599 hs88.2.2.1 hs88.2.1.2 hs88.1.1.2.1 | omega⟩, Or.inl ⟨by first | exact ⟨And.intro (hs88.1.1.1) (And.intro (hs88.1.1.2.1) (And.intro (hs88.1.1.2.2.1) (hs88.1.1.2.2.2))), And.intro (hs88.1.2.1.1) (hs88.1.2.1.2), hs88.1.2.2.1, hs88.1.2.2.2.1, hs88.1.2.2.2.2⟩ | omega, by first | exact hs88.2.2.2 | omega, pnq_z Qs88 (by omega) (by omega) (fun c hc q => by unfold bxC at q; omega)⟩⟩
              ·
                refine z_const X (show cdA 235 100 = some (.iconst 0, 1, 0, 0, 0) from rfl) ?_
                exact w_iret X.1 q hRt rfl (ax_d X (show cdA 235 101 = some (.ireturn, 1, 0, 0, 0) from rfl)) (Nat.zero_le _) (Nat.zero_le _) ⟨_, rfl, Is84, Gs84, 0, rfl, (by decide), Or.inr ⟨by first | exact oq_ea342497 g87 hps84 g83 b61.1 hps59 g58 hps56 g5 hps3 vs2 | omega, aws84_228⟩⟩
            ·
              refine z_load_n X (x := x) (show cdA 235 71 = some (.iload_n 1, 1, 0, 0, 0) from rfl) (List.Mem.tail _ (List.Mem.head _)) ?_
              refine z_bipush X (show cdA 235 72 = some (.bipush 8, 2, 0, 0, 8) from rfl) ?_
              refine z_quot X (show cdA 235 74 = some (.idiv, 1, 0, 0, 0) from rfl) (by first | exact oq_77708b6d g5 hps3 | omega) ⟨by first | exact p0.1 | omega, by first | exact p0.2 | omega⟩ (by decide) (by decide) ?_
              refine z_bipush X (show cdA 235 75 = some (.bipush 8, 2, 0, 0, 8) from rfl) ?_
              refine z_mod X (show cdA 235 77 = some (.irem, 1, 0, 0, 0) from rfl) (by first | exact oq_88610498 g5 hps3 | omega) ⟨by first | exact oq_186a3934 p0.1 | omega, by first | exact oq_2590a617 p0.2 | omega⟩ (by decide) (by decide) ?_
              refine z_load_n X (x := y) (show cdA 235 78 = some (.iload_n 2, 1, 0, 0, 0) from rfl) (List.Mem.tail _ (List.Mem.tail _ (List.Mem.head _))) ?_
              refine z_bipush X (show cdA 235 79 = some (.bipush 8, 2, 0, 0, 8) from rfl) ?_
              refine z_quot X (show cdA 235 81 = some (.idiv, 1, 0, 0, 0) from rfl) (by first | exact oq_77708b6d g58 hps56 | omega) ⟨by first | exact p1.1 | omega, by first | exact p1.2 | omega⟩ (by decide) (by decide) ?_
              refine z_bipush X (show cdA 235 82 = some (.bipush 8, 2, 0, 0, 8) from rfl) ?_
              refine z_mod X (show cdA 235 84 = some (.irem, 1, 0, 0, 0) from rfl) (by first | exact oq_88610498 g58 hps56 | omega) ⟨by first | exact oq_186a3934 p1.1 | omega, by first | exact oq_2590a617 p1.2 | omega⟩ (by decide) (by decide) ?_
              refine z_icmp_le X (t := 92) (show cdA 235 85 = some (.if_icmp .le 7, 3, 5, 0, 0) from rfl) (by decide) ⟨by first | exact oq_452e8fda | omega, by first | exact oq_267eaf70 | omega⟩ ⟨by first | exact oq_452e8fda | omega, by first | exact oq_267eaf70 | omega⟩ (fun g92 => ?_) (fun g92 => ?_)
              ·
                refine z_const X (show cdA 235 92 = some (.iconst 0, 1, 0, 0, 0) from rfl) ?_
                refine z_const X (show cdA 235 93 = some (.iconst 2, 1, 0, 0, 0) from rfl) ?_
                refine z_callV X 179 (rm := rmN 187) (As := [.int (Int32.ofInt 0), .int (Int32.ofInt 2)]) (st := []) (show cdA 235 94 = some (.invokevirtual 229, 3, 187, 0, 0) from rfl) rfl (by decide) rfl (by rw [E.1, E.2.1, E.2.2.1]; exact k_bad2 G Is59 (by first | exact Or.inl (by decide) | omega) (by first | exact ⟨by decide, by decide⟩ | omega)) ⟨by rw [E.2.2.2]; exact (show (rmN 187).frames + 1 ≤ (rmN 235).frames by decide), by rw [E.2.2.2]; exact (show 8 + (mNL (miB 187) + 11) + (rmN 187).locals ≤ (rmN 235).locals by decide), by rw [E.2.2.2]; exact (show 0 + (rmN 187).cells ≤ (rmN 235).cells by decide), by rw [E.2.2.2]; exact (show 0 + (rmN 187).slots ≤ (rmN 235).slots by decide)⟩ (Nat.le_of_ble_eq_true rfl) (fun vv s93 hq => ?_) (fun ee s93 hq => ?_)
                rotate_left
                · obtain ⟨Is93, Fs93, e94, hv, hrs93, hps93⟩ := hq; cases hv
                obtain ⟨Is93, Fs93, e94, hv, hrs93, hps93⟩ := hq
                cases hv
                have Gs93 := fm_ts Gs59 Fs93 (by decide) (by decide)
                have b95 : (0 : Int) ≤ iI s93 73 ∧ iI s93 73 ≤ 3 := Is93.1 73
                have aws93_228 : SAM 228 s s93 := sam_ts aws59_228 (sam_fm Fs93 (by decide))
                show WS k 97 [(0, .ref (A 179)), (1, .int (Int32.ofInt x)), (2, .int (Int32.ofInt y)), (3, .int (Int32.ofInt z))] [.int (Int32.ofInt e94)] (Wd A dT s93) 0 0
                refine z_if_eq X (t := 102) (show cdA 235 97 = some (.ifCond .eq 5, 3, 0, 0, 0) from rfl) (by decide) hrs93 (fun g96 => ?_) (fun g96 => ?_)
                ·
                  refine z_const X (show cdA 235 102 = some (.iconst 0, 1, 0, 0, 0) from rfl) ?_
                  refine z_store X (lv' := [(4, .int (Int32.ofInt 0)), (0, .ref (A 179)), (1, .int (Int32.ofInt x)), (2, .int (Int32.ofInt y)), (3, .int (Int32.ofInt z))]) (show cdA 235 103 = some (.istore 4, 2, 0, 0, 0) from rfl) (by decide) (fun _ h => h) ?_
                  refine z_bipush X (show cdA 235 105 = some (.bipush 64, 2, 0, 0, 64) from rfl) ?_
                  refine z_load_n X (x := x) (show cdA 235 107 = some (.iload_n 1, 1, 0, 0, 0) from rfl) (List.Mem.tail _ (List.Mem.tail _ (List.Mem.head _))) ?_
                  refine z_bipush X (show cdA 235 108 = some (.bipush 64, 2, 0, 0, 64) from rfl) ?_
                  refine z_quot X (show cdA 235 110 = some (.idiv, 1, 0, 0, 0) from rfl) (by first | exact oq_77708b6d g5 hps3 | omega) ⟨by first | exact p0.1 | omega, by first | exact p0.2 | omega⟩ (by decide) (by decide) ?_
                  refine z_mul X (show cdA 235 111 = some (.imul, 1, 0, 0, 0) from rfl) ?_
                  refine z_store X (lv' := [(5, .int (Int32.ofInt (64 * (x / 64)))), (4, .int (Int32.ofInt 0)), (0, .ref (A 179)), (1, .int (Int32.ofInt x)), (2, .int (Int32.ofInt y)), (3, .int (Int32.ofInt z))]) (show cdA 235 112 = some (.istore 5, 2, 0, 0, 0) from rfl) (by decide) (fun _ h => h) ?_
                  refine WS_lv (lv := [(0, .ref (A 179)), (1, .int (Int32.ofInt x)), (2, .int (Int32.ofInt y)), (3, .int (Int32.ofInt z)), (4, .int (Int32.ofInt 0)), (5, .int (Int32.ofInt (64 * (x / 64))))]) (List.forall_mem_cons.mpr ⟨(List.Mem.tail _ (List.Mem.tail _ (List.Mem.head _))), (List.forall_mem_cons.mpr ⟨(List.Mem.tail _ (List.Mem.tail _ (List.Mem.tail _ (List.Mem.head _)))), (List.forall_mem_cons.mpr ⟨(List.Mem.tail _ (List.Mem.tail _ (List.Mem.tail _ (List.Mem.tail _ (List.Mem.head _))))), (List.forall_mem_cons.mpr ⟨(List.Mem.tail _ (List.Mem.tail _ (List.Mem.tail _ (List.Mem.tail _ (List.Mem.tail _ (List.Mem.head _)))))), (List.forall_mem_cons.mpr ⟨(List.Mem.tail _ (List.Mem.head _)), (List.forall_mem_cons.mpr ⟨(List.Mem.head _), (fun q h => absurd h List.not_mem_nil)⟩)⟩)⟩)⟩)⟩)⟩) ?_
                  refine L114 ((128 - (64 * (x / 64)) : Int).toNat + 1) s93 x y z 0 (64 * (x / 64)) Is93 Gs93 (pnq_s (pnq_0 (f := pfM s) (by omega) (fun c h0 h1 q => by unfold bxC at q; omega)) rfl (show pfM s = pfM s93 from (funext aws93_228).symm)) (by first | exact ⟨And.intro (by decide) (And.intro (by decide) (by decide)), oq_9639b5e6 g92 g83 g74 g65 hps63 g58 hps56 g5 hps3, by omega, And.intro (by decide) (by decide), oq_c542437d b95.1 hps93 hps59 vs2⟩ | omega) (Nat.lt_succ_self _) ?_
                  intro s97 x98 x99 Is97 Fs97 Qs97 hs97
                  have b100 : (0 : Int) ≤ iI s97 73 ∧ iI s97 73 ≤ 3 := Is97.1 73
                  refine z_load X (x := x98) (show cdA 235 214 = some (.iload 4, 2, 0, 0, 0) from rfl) (List.Mem.tail _ (List.Mem.tail _ (List.Mem.tail _ (List.Mem.tail _ (List.Mem.head _))))) ?_
                  exact w_iret X.1 q hRt rfl (ax_d X (show cdA 235 216 = some (.ireturn, 1, 0, 0, 0) from rfl)) (Nat.zero_le _) (Nat.zero_le _) ⟨_, rfl, Is97, Fs97, x98, rfl, ⟨by first | exact oq_fa4e5087 hs97.2.1.1 | omega, by first | exact oq_ba739599 hs97.2.2.1 hs97.2.1.2 hs97.1.1.2.1 | omega⟩, Or.inl ⟨by first | exact ⟨And.intro (hs97.1.1.1) (And.intro (hs97.1.1.2.1) (And.intro (hs97.1.1.2.2.1) (hs97.1.1.2.2.2))), And.intro (hs97.1.2.1.1) (hs97.1.2.1.2), hs97.1.2.2.1, hs97.1.2.2.2.1, hs97.1.2.2.2.2⟩ | omega, by first | exact hs97.2.2.2 | omega, pnq_z Qs97 (by omega) (by omega) (fun c hc q => by unfold bxC at q; omega)⟩⟩
                ·
                  refine z_const X (show cdA 235 100 = some (.iconst 0, 1, 0, 0, 0) from rfl) ?_
                  exact w_iret X.1 q hRt rfl (ax_d X (show cdA 235 101 = some (.ireturn, 1, 0, 0, 0) from rfl)) (Nat.zero_le _) (Nat.zero_le _) ⟨_, rfl, Is93, Gs93, 0, rfl, (by decide), Or.inr ⟨by first | exact oq_9f99b3a7 g96 hps93 b61.1 hps59 vs2 | omega, aws93_228⟩⟩
              ·
                refine z_const X (show cdA 235 88 = some (.iconst 1, 1, 0, 0, 0) from rfl) ?_
                refine z_goto X (t := 93) (show cdA 235 89 = some (.goto 4, 3, 0, 0, 0) from rfl) (by decide) ?_
                refine z_const X (show cdA 235 93 = some (.iconst 2, 1, 0, 0, 0) from rfl) ?_
                refine z_callV X 179 (rm := rmN 187) (As := [.int (Int32.ofInt 1), .int (Int32.ofInt 2)]) (st := []) (show cdA 235 94 = some (.invokevirtual 229, 3, 187, 0, 0) from rfl) rfl (by decide) rfl (by rw [E.1, E.2.1, E.2.2.1]; exact k_bad2 G Is59 (by first | exact Or.inr (by decide) | omega) (by first | exact ⟨by decide, by decide⟩ | omega)) ⟨by rw [E.2.2.2]; exact (show (rmN 187).frames + 1 ≤ (rmN 235).frames by decide), by rw [E.2.2.2]; exact (show 8 + (mNL (miB 187) + 11) + (rmN 187).locals ≤ (rmN 235).locals by decide), by rw [E.2.2.2]; exact (show 0 + (rmN 187).cells ≤ (rmN 235).cells by decide), by rw [E.2.2.2]; exact (show 0 + (rmN 187).slots ≤ (rmN 235).slots by decide)⟩ (Nat.le_of_ble_eq_true rfl) (fun vv s101 hq => ?_) (fun ee s101 hq => ?_)
                rotate_left
                · obtain ⟨Is101, Fs101, e102, hv, hrs101, hps101⟩ := hq; cases hv
                obtain ⟨Is101, Fs101, e102, hv, hrs101, hps101⟩ := hq
                cases hv
                have Gs101 := fm_ts Gs59 Fs101 (by decide) (by decide)
                have b103 : (0 : Int) ≤ iI s101 73 ∧ iI s101 73 ≤ 3 := Is101.1 73
                have aws101_228 : SAM 228 s s101 := sam_ts aws59_228 (sam_fm Fs101 (by decide))
                show WS k 97 [(0, .ref (A 179)), (1, .int (Int32.ofInt x)), (2, .int (Int32.ofInt y)), (3, .int (Int32.ofInt z))] [.int (Int32.ofInt e102)] (Wd A dT s101) 0 0
                refine z_if_eq X (t := 102) (show cdA 235 97 = some (.ifCond .eq 5, 3, 0, 0, 0) from rfl) (by decide) hrs101 (fun g104 => ?_) (fun g104 => ?_)
                ·
                  refine z_const X (show cdA 235 102 = some (.iconst 0, 1, 0, 0, 0) from rfl) ?_
                  refine z_store X (lv' := [(4, .int (Int32.ofInt 0)), (0, .ref (A 179)), (1, .int (Int32.ofInt x)), (2, .int (Int32.ofInt y)), (3, .int (Int32.ofInt z))]) (show cdA 235 103 = some (.istore 4, 2, 0, 0, 0) from rfl) (by decide) (fun _ h => h) ?_
                  refine z_bipush X (show cdA 235 105 = some (.bipush 64, 2, 0, 0, 64) from rfl) ?_
                  refine z_load_n X (x := x) (show cdA 235 107 = some (.iload_n 1, 1, 0, 0, 0) from rfl) (List.Mem.tail _ (List.Mem.tail _ (List.Mem.head _))) ?_
                  refine z_bipush X (show cdA 235 108 = some (.bipush 64, 2, 0, 0, 64) from rfl) ?_
                  refine z_quot X (show cdA 235 110 = some (.idiv, 1, 0, 0, 0) from rfl) (by first | exact oq_77708b6d g5 hps3 | omega) ⟨by first | exact p0.1 | omega, by first | exact p0.2 | omega⟩ (by decide) (by decide) ?_
                  refine z_mul X (show cdA 235 111 = some (.imul, 1, 0, 0, 0) from rfl) ?_
                  refine z_store X (lv' := [(5, .int (Int32.ofInt (64 * (x / 64)))), (4, .int (Int32.ofInt 0)), (0, .ref (A 179)), (1, .int (Int32.ofInt x)), (2, .int (Int32.ofInt y)), (3, .int (Int32.ofInt z))]) (show cdA 235 112 = some (.istore 5, 2, 0, 0, 0) from rfl) (by decide) (fun _ h => h) ?_
                  refine WS_lv (lv := [(0, .ref (A 179)), (1, .int (Int32.ofInt x)), (2, .int (Int32.ofInt y)), (3, .int (Int32.ofInt z)), (4, .int (Int32.ofInt 0)), (5, .int (Int32.ofInt (64 * (x / 64))))]) (List.forall_mem_cons.mpr ⟨(List.Mem.tail _ (List.Mem.tail _ (List.Mem.head _))), (List.forall_mem_cons.mpr ⟨(List.Mem.tail _ (List.Mem.tail _ (List.Mem.tail _ (List.Mem.head _)))), (List.forall_mem_cons.mpr ⟨(List.Mem.tail _ (List.Mem.tail _ (List.Mem.tail _ (List.Mem.tail _ (List.Mem.head _))))), (List.forall_mem_cons.mpr ⟨(List.Mem.tail _ (List.Mem.tail _ (List.Mem.tail _ (List.Mem.tail _ (List.Mem.tail _ (List.Mem.head _)))))), (List.forall_mem_cons.mpr ⟨(List.Mem.tail _ (List.Mem.head _)), (List.forall_mem_cons.mpr ⟨(List.Mem.head _), (fun q h => absurd h List.not_mem_nil)⟩)⟩)⟩)⟩)⟩)⟩) ?_
                  refine L114 ((128 - (64 * (x / 64)) : Int).toNat + 1) s101 x y z 0 (64 * (x / 64)) Is101 Gs101 (pnq_s (pnq_0 (f := pfM s) (by omega) (fun c h0 h1 q => by unfold bxC at q; omega)) rfl (show pfM s = pfM s101 from (funext aws101_228).symm)) (by first | exact ⟨And.intro (by decide) (And.intro (by decide) (by decide)), oq_f827cc9d g104 hps101 b61.1 hps59 vs2, oq_94dce2ce g104 hps101 b61.1 hps59 vs2, And.intro (by decide) (by decide), oq_fb4755ef g104 b103.1 hps101 hps59 vs2⟩ | omega) (Nat.lt_succ_self _) ?_
                  intro s105 x106 x107 Is105 Fs105 Qs105 hs105
                  have b108 : (0 : Int) ≤ iI s105 73 ∧ iI s105 73 ≤ 3 := Is105.1 73
                  refine z_load X (x := x106) (show cdA 235 214 = some (.iload 4, 2, 0, 0, 0) from rfl) (List.Mem.tail _ (List.Mem.tail _ (List.Mem.tail _ (List.Mem.tail _ (List.Mem.head _))))) ?_
                  exact w_iret X.1 q hRt rfl (ax_d X (show cdA 235 216 = some (.ireturn, 1, 0, 0, 0) from rfl)) (Nat.zero_le _) (Nat.zero_le _) ⟨_, rfl, Is105, Fs105, x106, rfl, ⟨by first | exact oq_fa4e5087 hs105.2.1.1 | omega, by first | exact oq_ba739599 hs105.2.2.1 hs105.2.1.2 hs105.1.1.2.1 | omega⟩, Or.inl ⟨by first | exact ⟨And.intro (hs105.1.1.1) (And.intro (hs105.1.1.2.1) (And.intro (hs105.1.1.2.2.1) (hs105.1.1.2.2.2))), And.intro (hs105.1.2.1.1) (hs105.1.2.1.2), hs105.1.2.2.1, hs105.1.2.2.2.1, hs105.1.2.2.2.2⟩ | omega, by first | exact hs105.2.2.2 | omega, pnq_z Qs105 (by omega) (by omega) (fun c hc q => by unfold bxC at q; omega)⟩⟩
                ·
                  refine z_const X (show cdA 235 100 = some (.iconst 0, 1, 0, 0, 0) from rfl) ?_
                  exact w_iret X.1 q hRt rfl (ax_d X (show cdA 235 101 = some (.ireturn, 1, 0, 0, 0) from rfl)) (Nat.zero_le _) (Nat.zero_le _) ⟨_, rfl, Is101, Gs101, 0, rfl, (by decide), Or.inr ⟨by first | exact oq_c55d5f07 g104 hps101 g92 b61.1 hps59 g58 hps56 g5 hps3 vs2 | omega, aws101_228⟩⟩
    ·
      refine z_const X (show cdA 235 26 = some (.iconst 1, 1, 0, 0, 0) from rfl) ?_
      refine z_goto X (t := 31) (show cdA 235 27 = some (.goto 4, 3, 0, 0, 0) from rfl) (by decide) ?_
      refine z_const X (show cdA 235 31 = some (.iconst 1, 1, 0, 0, 0) from rfl) ?_
      refine z_callV X 179 (rm := rmN 187) (As := [.int (Int32.ofInt 1), .int (Int32.ofInt 1)]) (st := []) (show cdA 235 32 = some (.invokevirtual 229, 3, 187, 0, 0) from rfl) rfl (by decide) rfl (by rw [E.1, E.2.1, E.2.2.1]; exact k_bad2 G Is2 (by first | exact Or.inr (by decide) | omega) (by first | exact ⟨by decide, by decide⟩ | omega)) ⟨by rw [E.2.2.2]; exact (show (rmN 187).frames + 1 ≤ (rmN 235).frames by decide), by rw [E.2.2.2]; exact (show 8 + (mNL (miB 187) + 11) + (rmN 187).locals ≤ (rmN 235).locals by decide), by rw [E.2.2.2]; exact (show 0 + (rmN 187).cells ≤ (rmN 235).cells by decide), by rw [E.2.2.2]; exact (show 0 + (rmN 187).slots ≤ (rmN 235).slots by decide)⟩ (Nat.le_of_ble_eq_true rfl) (fun vv s109 hq => ?_) (fun ee s109 hq => ?_)
      rotate_left
      · obtain ⟨Is109, Fs109, e110, hv, hrs109, hps109⟩ := hq; cases hv
      obtain ⟨Is109, Fs109, e110, hv, hrs109, hps109⟩ := hq
      cases hv
      have Gs109 := fm_ts Fs2 Fs109 (by decide) (by decide)
      have b111 : (0 : Int) ≤ iI s109 73 ∧ iI s109 73 ≤ 3 := Is109.1 73
      have aws109_228 : SAM 228 s s109 := sam_ts aws2_228 (sam_fm Fs109 (by decide))
      show WS k 35 [(0, .ref (A 179)), (1, .int (Int32.ofInt x)), (2, .int (Int32.ofInt y)), (3, .int (Int32.ofInt z))] [.int (Int32.ofInt e110)] (Wd A dT s109) 0 0
      refine z_if_ne X (t := 100) (show cdA 235 35 = some (.ifCond .ne 65, 3, 1, 0, 0) from rfl) (by decide) hrs109 (fun g112 => ?_) (fun g112 => ?_)
      ·
        refine z_const X (show cdA 235 100 = some (.iconst 0, 1, 0, 0, 0) from rfl) ?_
        exact w_iret X.1 q hRt rfl (ax_d X (show cdA 235 101 = some (.ireturn, 1, 0, 0, 0) from rfl)) (Nat.zero_le _) (Nat.zero_le _) ⟨_, rfl, Is109, Gs109, 0, rfl, (by decide), Or.inr ⟨by first | exact oq_eb4003a5 g112 hps109 g58 hps56 vs2 | omega, aws109_228⟩⟩
      ·
        refine z_aload_n X (x := A 179) (show cdA 235 38 = some (.aload_n 0, 1, 0, 0, 0) from rfl) (List.Mem.head _) ?_
        refine z_load_n X (x := z) (show cdA 235 39 = some (.iload_n 3, 1, 0, 0, 0) from rfl) (List.Mem.tail _ (List.Mem.tail _ (List.Mem.tail _ (List.Mem.head _)))) ?_
        refine z_const X (show cdA 235 40 = some (.iconst (-1), 1, 0, 0, 0) from rfl) ?_
        refine z_bipush X (show cdA 235 41 = some (.bipush 7, 2, 0, 0, 7) from rfl) ?_
        refine z_callS X (rm := rmN 188) (As := [.int (Int32.ofInt z), .int (Int32.ofInt (-1)), .int (Int32.ofInt 7)]) (st := [.ref (A 179)]) (show cdA 235 43 = some (.invokestatic 209, 3, 188, 1, 0) from rfl) rfl (by rw [E.1, E.2.1, E.2.2.1]; exact k_in2 G Is109 (by first | exact ⟨p2.1, p2.2⟩ | omega) (by first | exact ⟨by decide, by decide⟩ | omega) (by first | exact ⟨by decide, by decide⟩ | omega)) ⟨by rw [E.2.2.2]; exact (show (rmN 188).frames + 1 ≤ (rmN 235).frames by decide), by rw [E.2.2.2]; exact (show 8 + (mNL (miB 188) + 11) + (rmN 188).locals ≤ (rmN 235).locals by decide), by rw [E.2.2.2]; exact (show 0 + (rmN 188).cells ≤ (rmN 235).cells by decide), by rw [E.2.2.2]; exact (show 0 + (rmN 188).slots ≤ (rmN 235).slots by decide)⟩ (Nat.le_of_ble_eq_true rfl) (fun vv s113 hq => ?_) (fun ee s113 hq => ?_)
        rotate_left
        · obtain ⟨rfl, e114, hv, hrs113, hps113⟩ := hq; cases hv
        obtain ⟨rfl, e114, hv, hrs113, hps113⟩ := hq
        cases hv
        show WS k 46 [(0, .ref (A 179)), (1, .int (Int32.ofInt x)), (2, .int (Int32.ofInt y)), (3, .int (Int32.ofInt z))] [.int (Int32.ofInt e114), .ref (A 179)] (Wd A dT s109) 0 0
        refine z_if_eq X (t := 88) (show cdA 235 46 = some (.ifCond .eq 42, 3, 0, 0, 0) from rfl) (by decide) hrs113 (fun g115 => ?_) (fun g115 => ?_)
        ·
          refine z_const X (show cdA 235 88 = some (.iconst 1, 1, 0, 0, 0) from rfl) ?_
          refine z_goto X (t := 93) (show cdA 235 89 = some (.goto 4, 3, 0, 0, 0) from rfl) (by decide) ?_
          refine z_const X (show cdA 235 93 = some (.iconst 2, 1, 0, 0, 0) from rfl) ?_
          refine z_callV X 179 (rm := rmN 187) (As := [.int (Int32.ofInt 1), .int (Int32.ofInt 2)]) (st := []) (show cdA 235 94 = some (.invokevirtual 229, 3, 187, 0, 0) from rfl) rfl (by decide) rfl (by rw [E.1, E.2.1, E.2.2.1]; exact k_bad2 G Is109 (by first | exact Or.inr (by decide) | omega) (by first | exact ⟨by decide, by decide⟩ | omega)) ⟨by rw [E.2.2.2]; exact (show (rmN 187).frames + 1 ≤ (rmN 235).frames by decide), by rw [E.2.2.2]; exact (show 8 + (mNL (miB 187) + 11) + (rmN 187).locals ≤ (rmN 235).locals by decide), by rw [E.2.2.2]; exact (show 0 + (rmN 187).cells ≤ (rmN 235).cells by decide), by rw [E.2.2.2]; exact (show 0 + (rmN 187).slots ≤ (rmN 235).slots by decide)⟩ (Nat.le_of_ble_eq_true rfl) (fun vv s116 hq => ?_) (fun ee s116 hq => ?_)
          rotate_left
          · obtain ⟨Is116, Fs116, e117, hv, hrs116, hps116⟩ := hq; cases hv
          obtain ⟨Is116, Fs116, e117, hv, hrs116, hps116⟩ := hq
          cases hv
          have Gs116 := fm_ts Gs109 Fs116 (by decide) (by decide)
          have b118 : (0 : Int) ≤ iI s116 73 ∧ iI s116 73 ≤ 3 := Is116.1 73
          have aws116_228 : SAM 228 s s116 := sam_ts aws109_228 (sam_fm Fs116 (by decide))
          show WS k 97 [(0, .ref (A 179)), (1, .int (Int32.ofInt x)), (2, .int (Int32.ofInt y)), (3, .int (Int32.ofInt z))] [.int (Int32.ofInt e117)] (Wd A dT s116) 0 0
          refine z_if_eq X (t := 102) (show cdA 235 97 = some (.ifCond .eq 5, 3, 0, 0, 0) from rfl) (by decide) hrs116 (fun g119 => ?_) (fun g119 => ?_)
          ·
            refine z_const X (show cdA 235 102 = some (.iconst 0, 1, 0, 0, 0) from rfl) ?_
            refine z_store X (lv' := [(4, .int (Int32.ofInt 0)), (0, .ref (A 179)), (1, .int (Int32.ofInt x)), (2, .int (Int32.ofInt y)), (3, .int (Int32.ofInt z))]) (show cdA 235 103 = some (.istore 4, 2, 0, 0, 0) from rfl) (by decide) (fun _ h => h) ?_
            refine z_bipush X (show cdA 235 105 = some (.bipush 64, 2, 0, 0, 64) from rfl) ?_
            refine z_load_n X (x := x) (show cdA 235 107 = some (.iload_n 1, 1, 0, 0, 0) from rfl) (List.Mem.tail _ (List.Mem.tail _ (List.Mem.head _))) ?_
            refine z_bipush X (show cdA 235 108 = some (.bipush 64, 2, 0, 0, 64) from rfl) ?_
            refine z_quot X (show cdA 235 110 = some (.idiv, 1, 0, 0, 0) from rfl) (by first | exact oq_77708b6d g5 hps3 | omega) ⟨by first | exact p0.1 | omega, by first | exact p0.2 | omega⟩ (by decide) (by decide) ?_
            refine z_mul X (show cdA 235 111 = some (.imul, 1, 0, 0, 0) from rfl) ?_
            refine z_store X (lv' := [(5, .int (Int32.ofInt (64 * (x / 64)))), (4, .int (Int32.ofInt 0)), (0, .ref (A 179)), (1, .int (Int32.ofInt x)), (2, .int (Int32.ofInt y)), (3, .int (Int32.ofInt z))]) (show cdA 235 112 = some (.istore 5, 2, 0, 0, 0) from rfl) (by decide) (fun _ h => h) ?_
            refine WS_lv (lv := [(0, .ref (A 179)), (1, .int (Int32.ofInt x)), (2, .int (Int32.ofInt y)), (3, .int (Int32.ofInt z)), (4, .int (Int32.ofInt 0)), (5, .int (Int32.ofInt (64 * (x / 64))))]) (List.forall_mem_cons.mpr ⟨(List.Mem.tail _ (List.Mem.tail _ (List.Mem.head _))), (List.forall_mem_cons.mpr ⟨(List.Mem.tail _ (List.Mem.tail _ (List.Mem.tail _ (List.Mem.head _)))), (List.forall_mem_cons.mpr ⟨(List.Mem.tail _ (List.Mem.tail _ (List.Mem.tail _ (List.Mem.tail _ (List.Mem.head _))))), (List.forall_mem_cons.mpr ⟨(List.Mem.tail _ (List.Mem.tail _ (List.Mem.tail _ (List.Mem.tail _ (List.Mem.tail _ (List.Mem.head _)))))), (List.forall_mem_cons.mpr ⟨(List.Mem.tail _ (List.Mem.head _)), (List.forall_mem_cons.mpr ⟨(List.Mem.head _), (fun q h => absurd h List.not_mem_nil)⟩)⟩)⟩)⟩)⟩)⟩) ?_
            refine L114 ((128 - (64 * (x / 64)) : Int).toNat + 1) s116 x y z 0 (64 * (x / 64)) Is116 Gs116 (pnq_s (pnq_0 (f := pfM s) (by omega) (fun c h0 h1 q => by unfold bxC at q; omega)) rfl (show pfM s = pfM s116 from (funext aws116_228).symm)) (by first | exact ⟨And.intro (by decide) (And.intro (by decide) (by decide)), oq_3b5755f7 g119 hps116 g112 b111.1 hps109 vs2, oq_60648b5f g119 hps116 g112 b111.1 hps109 vs2, And.intro (by decide) (by decide), oq_7ef9130d g119 b118.1 hps116 g112 hps109 vs2⟩ | omega) (Nat.lt_succ_self _) ?_
            intro s120 x121 x122 Is120 Fs120 Qs120 hs120
            have b123 : (0 : Int) ≤ iI s120 73 ∧ iI s120 73 ≤ 3 := Is120.1 73
            refine z_load X (x := x121) (show cdA 235 214 = some (.iload 4, 2, 0, 0, 0) from rfl) (List.Mem.tail _ (List.Mem.tail _ (List.Mem.tail _ (List.Mem.tail _ (List.Mem.head _))))) ?_
            exact w_iret X.1 q hRt rfl (ax_d X (show cdA 235 216 = some (.ireturn, 1, 0, 0, 0) from rfl)) (Nat.zero_le _) (Nat.zero_le _) ⟨_, rfl, Is120, Fs120, x121, rfl, ⟨by first | exact oq_fa4e5087 hs120.2.1.1 | omega, by first | exact oq_ba739599 hs120.2.2.1 hs120.2.1.2 hs120.1.1.2.1 | omega⟩, Or.inl ⟨by first | exact ⟨And.intro (hs120.1.1.1) (And.intro (hs120.1.1.2.1) (And.intro (hs120.1.1.2.2.1) (hs120.1.1.2.2.2))), And.intro (hs120.1.2.1.1) (hs120.1.2.1.2), hs120.1.2.2.1, hs120.1.2.2.2.1, hs120.1.2.2.2.2⟩ | omega, by first | exact hs120.2.2.2 | omega, pnq_z Qs120 (by omega) (by omega) (fun c hc q => by unfold bxC at q; omega)⟩⟩
          ·
            refine z_const X (show cdA 235 100 = some (.iconst 0, 1, 0, 0, 0) from rfl) ?_
            exact w_iret X.1 q hRt rfl (ax_d X (show cdA 235 101 = some (.ireturn, 1, 0, 0, 0) from rfl)) (Nat.zero_le _) (Nat.zero_le _) ⟨_, rfl, Is116, Gs116, 0, rfl, (by decide), Or.inr ⟨by first | exact oq_adc32970 g112 hps109 vs2 | omega, aws116_228⟩⟩
        ·
          refine z_load_n X (x := x) (show cdA 235 49 = some (.iload_n 1, 1, 0, 0, 0) from rfl) (List.Mem.tail _ (List.Mem.head _)) ?_
          refine z_bipush X (show cdA 235 50 = some (.bipush 64, 2, 0, 0, 64) from rfl) ?_
          refine z_quot X (show cdA 235 52 = some (.idiv, 1, 0, 0, 0) from rfl) (by first | exact oq_77708b6d g5 hps3 | omega) ⟨by first | exact p0.1 | omega, by first | exact p0.2 | omega⟩ (by decide) (by decide) ?_
          refine z_load_n X (x := y) (show cdA 235 53 = some (.iload_n 2, 1, 0, 0, 0) from rfl) (List.Mem.tail _ (List.Mem.tail _ (List.Mem.head _))) ?_
          refine z_bipush X (show cdA 235 54 = some (.bipush 64, 2, 0, 0, 64) from rfl) ?_
          refine z_quot X (show cdA 235 56 = some (.idiv, 1, 0, 0, 0) from rfl) (by first | exact oq_674898f9 g112 hps109 vs2 | omega) ⟨by first | exact p1.1 | omega, by first | exact p1.2 | omega⟩ (by decide) (by decide) ?_
          refine z_icmp_ne X (t := 88) (show cdA 235 57 = some (.if_icmp .ne 31, 3, 1, 0, 0) from rfl) (by decide) ⟨by first | exact oq_f457fe4f p0.1 | omega, by first | exact oq_e42dd4bd p0.2 | omega⟩ ⟨by first | exact oq_f457fe4f p1.1 | omega, by first | exact oq_e42dd4bd p1.2 | omega⟩ (fun g124 => ?_) (fun g124 => ?_)
          ·
            refine z_const X (show cdA 235 88 = some (.iconst 1, 1, 0, 0, 0) from rfl) ?_
            refine z_goto X (t := 93) (show cdA 235 89 = some (.goto 4, 3, 0, 0, 0) from rfl) (by decide) ?_
            refine z_const X (show cdA 235 93 = some (.iconst 2, 1, 0, 0, 0) from rfl) ?_
            refine z_callV X 179 (rm := rmN 187) (As := [.int (Int32.ofInt 1), .int (Int32.ofInt 2)]) (st := []) (show cdA 235 94 = some (.invokevirtual 229, 3, 187, 0, 0) from rfl) rfl (by decide) rfl (by rw [E.1, E.2.1, E.2.2.1]; exact k_bad2 G Is109 (by first | exact Or.inr (by decide) | omega) (by first | exact ⟨by decide, by decide⟩ | omega)) ⟨by rw [E.2.2.2]; exact (show (rmN 187).frames + 1 ≤ (rmN 235).frames by decide), by rw [E.2.2.2]; exact (show 8 + (mNL (miB 187) + 11) + (rmN 187).locals ≤ (rmN 235).locals by decide), by rw [E.2.2.2]; exact (show 0 + (rmN 187).cells ≤ (rmN 235).cells by decide), by rw [E.2.2.2]; exact (show 0 + (rmN 187).slots ≤ (rmN 235).slots by decide)⟩ (Nat.le_of_ble_eq_true rfl) (fun vv s125 hq => ?_) (fun ee s125 hq => ?_)
            rotate_left
            · obtain ⟨Is125, Fs125, e126, hv, hrs125, hps125⟩ := hq; cases hv
            obtain ⟨Is125, Fs125, e126, hv, hrs125, hps125⟩ := hq
            cases hv
            have Gs125 := fm_ts Gs109 Fs125 (by decide) (by decide)
            have b127 : (0 : Int) ≤ iI s125 73 ∧ iI s125 73 ≤ 3 := Is125.1 73
            have aws125_228 : SAM 228 s s125 := sam_ts aws109_228 (sam_fm Fs125 (by decide))
            show WS k 97 [(0, .ref (A 179)), (1, .int (Int32.ofInt x)), (2, .int (Int32.ofInt y)), (3, .int (Int32.ofInt z))] [.int (Int32.ofInt e126)] (Wd A dT s125) 0 0
            refine z_if_eq X (t := 102) (show cdA 235 97 = some (.ifCond .eq 5, 3, 0, 0, 0) from rfl) (by decide) hrs125 (fun g128 => ?_) (fun g128 => ?_)
            ·
              refine z_const X (show cdA 235 102 = some (.iconst 0, 1, 0, 0, 0) from rfl) ?_
              refine z_store X (lv' := [(4, .int (Int32.ofInt 0)), (0, .ref (A 179)), (1, .int (Int32.ofInt x)), (2, .int (Int32.ofInt y)), (3, .int (Int32.ofInt z))]) (show cdA 235 103 = some (.istore 4, 2, 0, 0, 0) from rfl) (by decide) (fun _ h => h) ?_
              refine z_bipush X (show cdA 235 105 = some (.bipush 64, 2, 0, 0, 64) from rfl) ?_
              refine z_load_n X (x := x) (show cdA 235 107 = some (.iload_n 1, 1, 0, 0, 0) from rfl) (List.Mem.tail _ (List.Mem.tail _ (List.Mem.head _))) ?_
              refine z_bipush X (show cdA 235 108 = some (.bipush 64, 2, 0, 0, 64) from rfl) ?_
              refine z_quot X (show cdA 235 110 = some (.idiv, 1, 0, 0, 0) from rfl) (by first | exact oq_77708b6d g5 hps3 | omega) ⟨by first | exact p0.1 | omega, by first | exact p0.2 | omega⟩ (by decide) (by decide) ?_
              refine z_mul X (show cdA 235 111 = some (.imul, 1, 0, 0, 0) from rfl) ?_
              refine z_store X (lv' := [(5, .int (Int32.ofInt (64 * (x / 64)))), (4, .int (Int32.ofInt 0)), (0, .ref (A 179)), (1, .int (Int32.ofInt x)), (2, .int (Int32.ofInt y)), (3, .int (Int32.ofInt z))]) (show cdA 235 112 = some (.istore 5, 2, 0, 0, 0) from rfl) (by decide) (fun _ h => h) ?_
              refine WS_lv (lv := [(0, .ref (A 179)), (1, .int (Int32.ofInt x)), (2, .int (Int32.ofInt y)), (3, .int (Int32.ofInt z)), (4, .int (Int32.ofInt 0)), (5, .int (Int32.ofInt (64 * (x / 64))))]) (List.forall_mem_cons.mpr ⟨(List.Mem.tail _ (List.Mem.tail _ (List.Mem.head _))), (List.forall_mem_cons.mpr ⟨(List.Mem.tail _ (List.Mem.tail _ (List.Mem.tail _ (List.Mem.head _)))), (List.forall_mem_cons.mpr ⟨(List.Mem.tail _ (List.Mem.tail _ (List.Mem.tail _ (List.Mem.tail _ (List.Mem.head _))))), (List.forall_mem_cons.mpr ⟨(List.Mem.tail _ (List.Mem.tail _ (List.Mem.tail _ (List.Mem.tail _ (List.Mem.tail _ (List.Mem.head _)))))), (List.forall_mem_cons.mpr ⟨(List.Mem.tail _ (List.Mem.head _)), (List.forall_mem_cons.mpr ⟨(List.Mem.head _), (fun q h => absurd h List.not_mem_nil)⟩)⟩)⟩)⟩)⟩)⟩) ?_
              refine L114 ((128 - (64 * (x / 64)) : Int).toNat + 1) s125 x y z 0 (64 * (x / 64)) Is125 Gs125 (pnq_s (pnq_0 (f := pfM s) (by omega) (fun c h0 h1 q => by unfold bxC at q; omega)) rfl (show pfM s = pfM s125 from (funext aws125_228).symm)) (by first | exact ⟨And.intro (by decide) (And.intro (by decide) (by decide)), by omega, by omega, And.intro (by decide) (by decide), oq_7ef9130d g128 b127.1 hps125 g112 hps109 vs2⟩ | omega) (Nat.lt_succ_self _) ?_
              intro s129 x130 x131 Is129 Fs129 Qs129 hs129
              have b132 : (0 : Int) ≤ iI s129 73 ∧ iI s129 73 ≤ 3 := Is129.1 73
              refine z_load X (x := x130) (show cdA 235 214 = some (.iload 4, 2, 0, 0, 0) from rfl) (List.Mem.tail _ (List.Mem.tail _ (List.Mem.tail _ (List.Mem.tail _ (List.Mem.head _))))) ?_
              exact w_iret X.1 q hRt rfl (ax_d X (show cdA 235 216 = some (.ireturn, 1, 0, 0, 0) from rfl)) (Nat.zero_le _) (Nat.zero_le _) ⟨_, rfl, Is129, Fs129, x130, rfl, ⟨by first | exact oq_fa4e5087 hs129.2.1.1 | omega, by first | exact oq_ba739599 hs129.2.2.1 hs129.2.1.2 hs129.1.1.2.1 | omega⟩, Or.inl ⟨by first | exact ⟨And.intro (hs129.1.1.1) (And.intro (hs129.1.1.2.1) (And.intro (hs129.1.1.2.2.1) (hs129.1.1.2.2.2))), And.intro (hs129.1.2.1.1) (hs129.1.2.1.2), hs129.1.2.2.1, hs129.1.2.2.2.1, hs129.1.2.2.2.2⟩ | omega, by first | exact hs129.2.2.2 | omega, pnq_z Qs129 (by omega) (by omega) (fun c hc q => by unfold bxC at q; omega)⟩⟩
            ·
              refine z_const X (show cdA 235 100 = some (.iconst 0, 1, 0, 0, 0) from rfl) ?_
              exact w_iret X.1 q hRt rfl (ax_d X (show cdA 235 101 = some (.ireturn, 1, 0, 0, 0) from rfl)) (Nat.zero_le _) (Nat.zero_le _) ⟨_, rfl, Is125, Gs125, 0, rfl, (by decide), Or.inr ⟨by omega, aws125_228⟩⟩
          ·
            refine z_load_n X (x := x) (show cdA 235 60 = some (.iload_n 1, 1, 0, 0, 0) from rfl) (List.Mem.tail _ (List.Mem.head _)) ?_
            refine z_bipush X (show cdA 235 61 = some (.bipush 8, 2, 0, 0, 8) from rfl) ?_
            refine z_mod X (show cdA 235 63 = some (.irem, 1, 0, 0, 0) from rfl) (by first | exact oq_77708b6d g5 hps3 | omega) ⟨by first | exact p0.1 | omega, by first | exact p0.2 | omega⟩ (by decide) (by decide) ?_
            refine z_load_n X (x := y) (show cdA 235 64 = some (.iload_n 2, 1, 0, 0, 0) from rfl) (List.Mem.tail _ (List.Mem.tail _ (List.Mem.head _))) ?_
            refine z_bipush X (show cdA 235 65 = some (.bipush 8, 2, 0, 0, 8) from rfl) ?_
            refine z_mod X (show cdA 235 67 = some (.irem, 1, 0, 0, 0) from rfl) (by first | exact oq_674898f9 g112 hps109 vs2 | omega) ⟨by first | exact p1.1 | omega, by first | exact p1.2 | omega⟩ (by decide) (by decide) ?_
            refine z_icmp_gt X (t := 88) (show cdA 235 68 = some (.if_icmp .gt 20, 3, 4, 0, 0) from rfl) (by decide) ⟨by first | exact oq_e86162eb | omega, by first | exact oq_70086759 | omega⟩ ⟨by first | exact oq_e86162eb | omega, by first | exact oq_70086759 | omega⟩ (fun g133 => ?_) (fun g133 => ?_)
            ·
              refine z_const X (show cdA 235 88 = some (.iconst 1, 1, 0, 0, 0) from rfl) ?_
              refine z_goto X (t := 93) (show cdA 235 89 = some (.goto 4, 3, 0, 0, 0) from rfl) (by decide) ?_
              refine z_const X (show cdA 235 93 = some (.iconst 2, 1, 0, 0, 0) from rfl) ?_
              refine z_callV X 179 (rm := rmN 187) (As := [.int (Int32.ofInt 1), .int (Int32.ofInt 2)]) (st := []) (show cdA 235 94 = some (.invokevirtual 229, 3, 187, 0, 0) from rfl) rfl (by decide) rfl (by rw [E.1, E.2.1, E.2.2.1]; exact k_bad2 G Is109 (by first | exact Or.inr (by decide) | omega) (by first | exact ⟨by decide, by decide⟩ | omega)) ⟨by rw [E.2.2.2]; exact (show (rmN 187).frames + 1 ≤ (rmN 235).frames by decide), by rw [E.2.2.2]; exact (show 8 + (mNL (miB 187) + 11) + (rmN 187).locals ≤ (rmN 235).locals by decide), by rw [E.2.2.2]; exact (show 0 + (rmN 187).cells ≤ (rmN 235).cells by decide), by rw [E.2.2.2]; exact (show 0 + (rmN 187).slots ≤ (rmN 235).slots by decide)⟩ (Nat.le_of_ble_eq_true rfl) (fun vv s134 hq => ?_) (fun ee s134 hq => ?_)
              rotate_left
              · obtain ⟨Is134, Fs134, e135, hv, hrs134, hps134⟩ := hq; cases hv
              obtain ⟨Is134, Fs134, e135, hv, hrs134, hps134⟩ := hq
              cases hv
              have Gs134 := fm_ts Gs109 Fs134 (by decide) (by decide)
              have b136 : (0 : Int) ≤ iI s134 73 ∧ iI s134 73 ≤ 3 := Is134.1 73
              have aws134_228 : SAM 228 s s134 := sam_ts aws109_228 (sam_fm Fs134 (by decide))
              show WS k 97 [(0, .ref (A 179)), (1, .int (Int32.ofInt x)), (2, .int (Int32.ofInt y)), (3, .int (Int32.ofInt z))] [.int (Int32.ofInt e135)] (Wd A dT s134) 0 0
              refine z_if_eq X (t := 102) (show cdA 235 97 = some (.ifCond .eq 5, 3, 0, 0, 0) from rfl) (by decide) hrs134 (fun g137 => ?_) (fun g137 => ?_)
              ·
                refine z_const X (show cdA 235 102 = some (.iconst 0, 1, 0, 0, 0) from rfl) ?_
                refine z_store X (lv' := [(4, .int (Int32.ofInt 0)), (0, .ref (A 179)), (1, .int (Int32.ofInt x)), (2, .int (Int32.ofInt y)), (3, .int (Int32.ofInt z))]) (show cdA 235 103 = some (.istore 4, 2, 0, 0, 0) from rfl) (by decide) (fun _ h => h) ?_
                refine z_bipush X (show cdA 235 105 = some (.bipush 64, 2, 0, 0, 64) from rfl) ?_
                refine z_load_n X (x := x) (show cdA 235 107 = some (.iload_n 1, 1, 0, 0, 0) from rfl) (List.Mem.tail _ (List.Mem.tail _ (List.Mem.head _))) ?_
                refine z_bipush X (show cdA 235 108 = some (.bipush 64, 2, 0, 0, 64) from rfl) ?_
                refine z_quot X (show cdA 235 110 = some (.idiv, 1, 0, 0, 0) from rfl) (by first | exact oq_77708b6d g5 hps3 | omega) ⟨by first | exact p0.1 | omega, by first | exact p0.2 | omega⟩ (by decide) (by decide) ?_
                refine z_mul X (show cdA 235 111 = some (.imul, 1, 0, 0, 0) from rfl) ?_
                refine z_store X (lv' := [(5, .int (Int32.ofInt (64 * (x / 64)))), (4, .int (Int32.ofInt 0)), (0, .ref (A 179)), (1, .int (Int32.ofInt x)), (2, .int (Int32.ofInt y)), (3, .int (Int32.ofInt z))]) (show cdA 235 112 = some (.istore 5, 2, 0, 0, 0) from rfl) (by decide) (fun _ h => h) ?_
                refine WS_lv (lv := [(0, .ref (A 179)), (1, .int (Int32.ofInt x)), (2, .int (Int32.ofInt y)), (3, .int (Int32.ofInt z)), (4, .int (Int32.ofInt 0)), (5, .int (Int32.ofInt (64 * (x / 64))))]) (List.forall_mem_cons.mpr ⟨(List.Mem.tail _ (List.Mem.tail _ (List.Mem.head _))), (List.forall_mem_cons.mpr ⟨(List.Mem.tail _ (List.Mem.tail _ (List.Mem.tail _ (List.Mem.head _)))), (List.forall_mem_cons.mpr ⟨(List.Mem.tail _ (List.Mem.tail _ (List.Mem.tail _ (List.Mem.tail _ (List.Mem.head _))))), (List.forall_mem_cons.mpr ⟨(List.Mem.tail _ (List.Mem.tail _ (List.Mem.tail _ (List.Mem.tail _ (List.Mem.tail _ (List.Mem.head _)))))), (List.forall_mem_cons.mpr ⟨(List.Mem.tail _ (List.Mem.head _)), (List.forall_mem_cons.mpr ⟨(List.Mem.head _), (fun q h => absurd h List.not_mem_nil)⟩)⟩)⟩)⟩)⟩)⟩) ?_
                refine L114 ((128 - (64 * (x / 64)) : Int).toNat + 1) s134 x y z 0 (64 * (x / 64)) Is134 Gs134 (pnq_s (pnq_0 (f := pfM s) (by omega) (fun c h0 h1 q => by unfold bxC at q; omega)) rfl (show pfM s = pfM s134 from (funext aws134_228).symm)) (by first | exact ⟨And.intro (by decide) (And.intro (by decide) (by decide)), oq_3b5755f7 g137 hps134 g112 b111.1 hps109 vs2, oq_60648b5f g137 hps134 g112 b111.1 hps109 vs2, And.intro (by decide) (by decide), oq_7ef9130d g137 b136.1 hps134 g112 hps109 vs2⟩ | omega) (Nat.lt_succ_self _) ?_
                intro s138 x139 x140 Is138 Fs138 Qs138 hs138
                have b141 : (0 : Int) ≤ iI s138 73 ∧ iI s138 73 ≤ 3 := Is138.1 73
                refine z_load X (x := x139) (show cdA 235 214 = some (.iload 4, 2, 0, 0, 0) from rfl) (List.Mem.tail _ (List.Mem.tail _ (List.Mem.tail _ (List.Mem.tail _ (List.Mem.head _))))) ?_
                exact w_iret X.1 q hRt rfl (ax_d X (show cdA 235 216 = some (.ireturn, 1, 0, 0, 0) from rfl)) (Nat.zero_le _) (Nat.zero_le _) ⟨_, rfl, Is138, Fs138, x139, rfl, ⟨by first | exact oq_fa4e5087 hs138.2.1.1 | omega, by first | exact oq_ba739599 hs138.2.2.1 hs138.2.1.2 hs138.1.1.2.1 | omega⟩, Or.inl ⟨by first | exact ⟨And.intro (hs138.1.1.1) (And.intro (hs138.1.1.2.1) (And.intro (hs138.1.1.2.2.1) (hs138.1.1.2.2.2))), And.intro (hs138.1.2.1.1) (hs138.1.2.1.2), hs138.1.2.2.1, hs138.1.2.2.2.1, hs138.1.2.2.2.2⟩ | omega, by first | exact hs138.2.2.2 | omega, pnq_z Qs138 (by omega) (by omega) (fun c hc q => by unfold bxC at q; omega)⟩⟩
              ·
                refine z_const X (show cdA 235 100 = some (.iconst 0, 1, 0, 0, 0) from rfl) ?_
                exact w_iret X.1 q hRt rfl (ax_d X (show cdA 235 101 = some (.ireturn, 1, 0, 0, 0) from rfl)) (Nat.zero_le _) (Nat.zero_le _) ⟨_, rfl, Is134, Gs134, 0, rfl, (by decide), Or.inr ⟨by first | exact oq_adc32970 g112 hps109 vs2 | omega, aws134_228⟩⟩
            ·
              refine z_load_n X (x := x) (show cdA 235 71 = some (.iload_n 1, 1, 0, 0, 0) from rfl) (List.Mem.tail _ (List.Mem.head _)) ?_
              refine z_bipush X (show cdA 235 72 = some (.bipush 8, 2, 0, 0, 8) from rfl) ?_
              refine z_quot X (show cdA 235 74 = some (.idiv, 1, 0, 0, 0) from rfl) (by first | exact oq_77708b6d g5 hps3 | omega) ⟨by first | exact p0.1 | omega, by first | exact p0.2 | omega⟩ (by decide) (by decide) ?_
              refine z_bipush X (show cdA 235 75 = some (.bipush 8, 2, 0, 0, 8) from rfl) ?_
              refine z_mod X (show cdA 235 77 = some (.irem, 1, 0, 0, 0) from rfl) (by first | exact oq_88610498 g5 hps3 | omega) ⟨by first | exact oq_186a3934 p0.1 | omega, by first | exact oq_2590a617 p0.2 | omega⟩ (by decide) (by decide) ?_
              refine z_load_n X (x := y) (show cdA 235 78 = some (.iload_n 2, 1, 0, 0, 0) from rfl) (List.Mem.tail _ (List.Mem.tail _ (List.Mem.head _))) ?_
              refine z_bipush X (show cdA 235 79 = some (.bipush 8, 2, 0, 0, 8) from rfl) ?_
              refine z_quot X (show cdA 235 81 = some (.idiv, 1, 0, 0, 0) from rfl) (by first | exact oq_674898f9 g112 hps109 vs2 | omega) ⟨by first | exact p1.1 | omega, by first | exact p1.2 | omega⟩ (by decide) (by decide) ?_
              refine z_bipush X (show cdA 235 82 = some (.bipush 8, 2, 0, 0, 8) from rfl) ?_
              refine z_mod X (show cdA 235 84 = some (.irem, 1, 0, 0, 0) from rfl) (by first | exact oq_ddbc3879 g112 hps109 vs2 | omega) ⟨by first | exact oq_186a3934 p1.1 | omega, by first | exact oq_2590a617 p1.2 | omega⟩ (by decide) (by decide) ?_
              refine z_icmp_le X (t := 92) (show cdA 235 85 = some (.if_icmp .le 7, 3, 5, 0, 0) from rfl) (by decide) ⟨by first | exact oq_452e8fda | omega, by first | exact oq_267eaf70 | omega⟩ ⟨by first | exact oq_452e8fda | omega, by first | exact oq_267eaf70 | omega⟩ (fun g142 => ?_) (fun g142 => ?_)
              ·
                refine z_const X (show cdA 235 92 = some (.iconst 0, 1, 0, 0, 0) from rfl) ?_
                refine z_const X (show cdA 235 93 = some (.iconst 2, 1, 0, 0, 0) from rfl) ?_
                refine z_callV X 179 (rm := rmN 187) (As := [.int (Int32.ofInt 0), .int (Int32.ofInt 2)]) (st := []) (show cdA 235 94 = some (.invokevirtual 229, 3, 187, 0, 0) from rfl) rfl (by decide) rfl (by rw [E.1, E.2.1, E.2.2.1]; exact k_bad2 G Is109 (by first | exact Or.inl (by decide) | omega) (by first | exact ⟨by decide, by decide⟩ | omega)) ⟨by rw [E.2.2.2]; exact (show (rmN 187).frames + 1 ≤ (rmN 235).frames by decide), by rw [E.2.2.2]; exact (show 8 + (mNL (miB 187) + 11) + (rmN 187).locals ≤ (rmN 235).locals by decide), by rw [E.2.2.2]; exact (show 0 + (rmN 187).cells ≤ (rmN 235).cells by decide), by rw [E.2.2.2]; exact (show 0 + (rmN 187).slots ≤ (rmN 235).slots by decide)⟩ (Nat.le_of_ble_eq_true rfl) (fun vv s143 hq => ?_) (fun ee s143 hq => ?_)
                rotate_left
                · obtain ⟨Is143, Fs143, e144, hv, hrs143, hps143⟩ := hq; cases hv
                obtain ⟨Is143, Fs143, e144, hv, hrs143, hps143⟩ := hq
                cases hv
                have Gs143 := fm_ts Gs109 Fs143 (by decide) (by decide)
                have b145 : (0 : Int) ≤ iI s143 73 ∧ iI s143 73 ≤ 3 := Is143.1 73
                have aws143_228 : SAM 228 s s143 := sam_ts aws109_228 (sam_fm Fs143 (by decide))
                show WS k 97 [(0, .ref (A 179)), (1, .int (Int32.ofInt x)), (2, .int (Int32.ofInt y)), (3, .int (Int32.ofInt z))] [.int (Int32.ofInt e144)] (Wd A dT s143) 0 0
                refine z_if_eq X (t := 102) (show cdA 235 97 = some (.ifCond .eq 5, 3, 0, 0, 0) from rfl) (by decide) hrs143 (fun g146 => ?_) (fun g146 => ?_)
                ·
                  refine z_const X (show cdA 235 102 = some (.iconst 0, 1, 0, 0, 0) from rfl) ?_
                  refine z_store X (lv' := [(4, .int (Int32.ofInt 0)), (0, .ref (A 179)), (1, .int (Int32.ofInt x)), (2, .int (Int32.ofInt y)), (3, .int (Int32.ofInt z))]) (show cdA 235 103 = some (.istore 4, 2, 0, 0, 0) from rfl) (by decide) (fun _ h => h) ?_
                  refine z_bipush X (show cdA 235 105 = some (.bipush 64, 2, 0, 0, 64) from rfl) ?_
                  refine z_load_n X (x := x) (show cdA 235 107 = some (.iload_n 1, 1, 0, 0, 0) from rfl) (List.Mem.tail _ (List.Mem.tail _ (List.Mem.head _))) ?_
                  refine z_bipush X (show cdA 235 108 = some (.bipush 64, 2, 0, 0, 64) from rfl) ?_
                  refine z_quot X (show cdA 235 110 = some (.idiv, 1, 0, 0, 0) from rfl) (by first | exact oq_77708b6d g5 hps3 | omega) ⟨by first | exact p0.1 | omega, by first | exact p0.2 | omega⟩ (by decide) (by decide) ?_
                  refine z_mul X (show cdA 235 111 = some (.imul, 1, 0, 0, 0) from rfl) ?_
                  refine z_store X (lv' := [(5, .int (Int32.ofInt (64 * (x / 64)))), (4, .int (Int32.ofInt 0)), (0, .ref (A 179)), (1, .int (Int32.ofInt x)), (2, .int (Int32.ofInt y)), (3, .int (Int32.ofInt z))]) (show cdA 235 112 = some (.istore 5, 2, 0, 0, 0) from rfl) (by decide) (fun _ h => h) ?_
                  refine WS_lv (lv := [(0, .ref (A 179)), (1, .int (Int32.ofInt x)), (2, .int (Int32.ofInt y)), (3, .int (Int32.ofInt z)), (4, .int (Int32.ofInt 0)), (5, .int (Int32.ofInt (64 * (x / 64))))]) (List.forall_mem_cons.mpr ⟨(List.Mem.tail _ (List.Mem.tail _ (List.Mem.head _))), (List.forall_mem_cons.mpr ⟨(List.Mem.tail _ (List.Mem.tail _ (List.Mem.tail _ (List.Mem.head _)))), (List.forall_mem_cons.mpr ⟨(List.Mem.tail _ (List.Mem.tail _ (List.Mem.tail _ (List.Mem.tail _ (List.Mem.head _))))), (List.forall_mem_cons.mpr ⟨(List.Mem.tail _ (List.Mem.tail _ (List.Mem.tail _ (List.Mem.tail _ (List.Mem.tail _ (List.Mem.head _)))))), (List.forall_mem_cons.mpr ⟨(List.Mem.tail _ (List.Mem.head _)), (List.forall_mem_cons.mpr ⟨(List.Mem.head _), (fun q h => absurd h List.not_mem_nil)⟩)⟩)⟩)⟩)⟩)⟩) ?_
                  refine L114 ((128 - (64 * (x / 64)) : Int).toNat + 1) s143 x y z 0 (64 * (x / 64)) Is143 Gs143 (pnq_s (pnq_0 (f := pfM s) (by omega) (fun c h0 h1 q => by unfold bxC at q; omega)) rfl (show pfM s = pfM s143 from (funext aws143_228).symm)) (by first | exact ⟨And.intro (by decide) (And.intro (by decide) (by decide)), oq_5d07a74c g112 hps109 vs2, oq_bf521bfa g112 hps109 vs2, And.intro (by decide) (by decide), oq_1b47d00d b145.1 hps143 g112 hps109 vs2⟩ | omega) (Nat.lt_succ_self _) ?_
                  intro s147 x148 x149 Is147 Fs147 Qs147 hs147
                  have b150 : (0 : Int) ≤ iI s147 73 ∧ iI s147 73 ≤ 3 := Is147.1 73
                  refine z_load X (x := x148) (show cdA 235 214 = some (.iload 4, 2, 0, 0, 0) from rfl) (List.Mem.tail _ (List.Mem.tail _ (List.Mem.tail _ (List.Mem.tail _ (List.Mem.head _))))) ?_
                  exact w_iret X.1 q hRt rfl (ax_d X (show cdA 235 216 = some (.ireturn, 1, 0, 0, 0) from rfl)) (Nat.zero_le _) (Nat.zero_le _) ⟨_, rfl, Is147, Fs147, x148, rfl, ⟨by first | exact oq_fa4e5087 hs147.2.1.1 | omega, by first | exact oq_ba739599 hs147.2.2.1 hs147.2.1.2 hs147.1.1.2.1 | omega⟩, Or.inl ⟨by first | exact ⟨And.intro (hs147.1.1.1) (And.intro (hs147.1.1.2.1) (And.intro (hs147.1.1.2.2.1) (hs147.1.1.2.2.2))), And.intro (hs147.1.2.1.1) (hs147.1.2.1.2), hs147.1.2.2.1, hs147.1.2.2.2.1, hs147.1.2.2.2.2⟩ | omega, by first | exact hs147.2.2.2 | omega, pnq_z Qs147 (by omega) (by omega) (fun c hc q => by unfold bxC at q; omega)⟩⟩
                ·
                  refine z_const X (show cdA 235 100 = some (.iconst 0, 1, 0, 0, 0) from rfl) ?_
                  exact w_iret X.1 q hRt rfl (ax_d X (show cdA 235 101 = some (.ireturn, 1, 0, 0, 0) from rfl)) (Nat.zero_le _) (Nat.zero_le _) ⟨_, rfl, Is143, Gs143, 0, rfl, (by decide), Or.inr ⟨by omega, aws143_228⟩⟩
              ·
                refine z_const X (show cdA 235 88 = some (.iconst 1, 1, 0, 0, 0) from rfl) ?_
                refine z_goto X (t := 93) (show cdA 235 89 = some (.goto 4, 3, 0, 0, 0) from rfl) (by decide) ?_
                refine z_const X (show cdA 235 93 = some (.iconst 2, 1, 0, 0, 0) from rfl) ?_
                refine z_callV X 179 (rm := rmN 187) (As := [.int (Int32.ofInt 1), .int (Int32.ofInt 2)]) (st := []) (show cdA 235 94 = some (.invokevirtual 229, 3, 187, 0, 0) from rfl) rfl (by decide) rfl (by rw [E.1, E.2.1, E.2.2.1]; exact k_bad2 G Is109 (by first | exact Or.inr (by decide) | omega) (by first | exact ⟨by decide, by decide⟩ | omega)) ⟨by rw [E.2.2.2]; exact (show (rmN 187).frames + 1 ≤ (rmN 235).frames by decide), by rw [E.2.2.2]; exact (show 8 + (mNL (miB 187) + 11) + (rmN 187).locals ≤ (rmN 235).locals by decide), by rw [E.2.2.2]; exact (show 0 + (rmN 187).cells ≤ (rmN 235).cells by decide), by rw [E.2.2.2]; exact (show 0 + (rmN 187).slots ≤ (rmN 235).slots by decide)⟩ (Nat.le_of_ble_eq_true rfl) (fun vv s151 hq => ?_) (fun ee s151 hq => ?_)
                rotate_left
                · obtain ⟨Is151, Fs151, e152, hv, hrs151, hps151⟩ := hq; cases hv
                obtain ⟨Is151, Fs151, e152, hv, hrs151, hps151⟩ := hq
                cases hv
                have Gs151 := fm_ts Gs109 Fs151 (by decide) (by decide)
                have b153 : (0 : Int) ≤ iI s151 73 ∧ iI s151 73 ≤ 3 := Is151.1 73
                have aws151_228 : SAM 228 s s151 := sam_ts aws109_228 (sam_fm Fs151 (by decide))
                show WS k 97 [(0, .ref (A 179)), (1, .int (Int32.ofInt x)), (2, .int (Int32.ofInt y)), (3, .int (Int32.ofInt z))] [.int (Int32.ofInt e152)] (Wd A dT s151) 0 0
                refine z_if_eq X (t := 102) (show cdA 235 97 = some (.ifCond .eq 5, 3, 0, 0, 0) from rfl) (by decide) hrs151 (fun g154 => ?_) (fun g154 => ?_)
                ·
                  refine z_const X (show cdA 235 102 = some (.iconst 0, 1, 0, 0, 0) from rfl) ?_
                  refine z_store X (lv' := [(4, .int (Int32.ofInt 0)), (0, .ref (A 179)), (1, .int (Int32.ofInt x)), (2, .int (Int32.ofInt y)), (3, .int (Int32.ofInt z))]) (show cdA 235 103 = some (.istore 4, 2, 0, 0, 0) from rfl) (by decide) (fun _ h => h) ?_
                  refine z_bipush X (show cdA 235 105 = some (.bipush 64, 2, 0, 0, 64) from rfl) ?_
                  refine z_load_n X (x := x) (show cdA 235 107 = some (.iload_n 1, 1, 0, 0, 0) from rfl) (List.Mem.tail _ (List.Mem.tail _ (List.Mem.head _))) ?_
                  refine z_bipush X (show cdA 235 108 = some (.bipush 64, 2, 0, 0, 64) from rfl) ?_
                  refine z_quot X (show cdA 235 110 = some (.idiv, 1, 0, 0, 0) from rfl) (by first | exact oq_77708b6d g5 hps3 | omega) ⟨by first | exact p0.1 | omega, by first | exact p0.2 | omega⟩ (by decide) (by decide) ?_
                  refine z_mul X (show cdA 235 111 = some (.imul, 1, 0, 0, 0) from rfl) ?_
                  refine z_store X (lv' := [(5, .int (Int32.ofInt (64 * (x / 64)))), (4, .int (Int32.ofInt 0)), (0, .ref (A 179)), (1, .int (Int32.ofInt x)), (2, .int (Int32.ofInt y)), (3, .int (Int32.ofInt z))]) (show cdA 235 112 = some (.istore 5, 2, 0, 0, 0) from rfl) (by decide) (fun _ h => h) ?_
                  refine WS_lv (lv := [(0, .ref (A 179)), (1, .int (Int32.ofInt x)), (2, .int (Int32.ofInt y)), (3, .int (Int32.ofInt z)), (4, .int (Int32.ofInt 0)), (5, .int (Int32.ofInt (64 * (x / 64))))]) (List.forall_mem_cons.mpr ⟨(List.Mem.tail _ (List.Mem.tail _ (List.Mem.head _))), (List.forall_mem_cons.mpr ⟨(List.Mem.tail _ (List.Mem.tail _ (List.Mem.tail _ (List.Mem.head _)))), (List.forall_mem_cons.mpr ⟨(List.Mem.tail _ (List.Mem.tail _ (List.Mem.tail _ (List.Mem.tail _ (List.Mem.head _))))), (List.forall_mem_cons.mpr ⟨(List.Mem.tail _ (List.Mem.tail _ (List.Mem.tail _ (List.Mem.tail _ (List.Mem.tail _ (List.Mem.head _)))))), (List.forall_mem_cons.mpr ⟨(List.Mem.tail _ (List.Mem.head _)), (List.forall_mem_cons.mpr ⟨(List.Mem.head _), (fun q h => absurd h List.not_mem_nil)⟩)⟩)⟩)⟩)⟩)⟩) ?_
                  refine L114 ((128 - (64 * (x / 64)) : Int).toNat + 1) s151 x y z 0 (64 * (x / 64)) Is151 Gs151 (pnq_s (pnq_0 (f := pfM s) (by omega) (fun c h0 h1 q => by unfold bxC at q; omega)) rfl (show pfM s = pfM s151 from (funext aws151_228).symm)) (by first | exact ⟨And.intro (by decide) (And.intro (by decide) (by decide)), oq_3b5755f7 g154 hps151 g112 b111.1 hps109 vs2, oq_60648b5f g154 hps151 g112 b111.1 hps109 vs2, And.intro (by decide) (by decide), oq_7ef9130d g154 b153.1 hps151 g112 hps109 vs2⟩ | omega) (Nat.lt_succ_self _) ?_
                  intro s155 x156 x157 Is155 Fs155 Qs155 hs155
                  have b158 : (0 : Int) ≤ iI s155 73 ∧ iI s155 73 ≤ 3 := Is155.1 73
                  refine z_load X (x := x156) (show cdA 235 214 = some (.iload 4, 2, 0, 0, 0) from rfl) (List.Mem.tail _ (List.Mem.tail _ (List.Mem.tail _ (List.Mem.tail _ (List.Mem.head _))))) ?_
                  exact w_iret X.1 q hRt rfl (ax_d X (show cdA 235 216 = some (.ireturn, 1, 0, 0, 0) from rfl)) (Nat.zero_le _) (Nat.zero_le _) ⟨_, rfl, Is155, Fs155, x156, rfl, ⟨by first | exact oq_fa4e5087 hs155.2.1.1 | omega, by first | exact oq_ba739599 hs155.2.2.1 hs155.2.1.2 hs155.1.1.2.1 | omega⟩, Or.inl ⟨by first | exact ⟨And.intro (hs155.1.1.1) (And.intro (hs155.1.1.2.1) (And.intro (hs155.1.1.2.2.1) (hs155.1.1.2.2.2))), And.intro (hs155.1.2.1.1) (hs155.1.2.1.2), hs155.1.2.2.1, hs155.1.2.2.2.1, hs155.1.2.2.2.2⟩ | omega, by first | exact hs155.2.2.2 | omega, pnq_z Qs155 (by omega) (by omega) (fun c hc q => by unfold bxC at q; omega)⟩⟩
                ·
                  refine z_const X (show cdA 235 100 = some (.iconst 0, 1, 0, 0, 0) from rfl) ?_
                  exact w_iret X.1 q hRt rfl (ax_d X (show cdA 235 101 = some (.ireturn, 1, 0, 0, 0) from rfl)) (Nat.zero_le _) (Nat.zero_le _) ⟨_, rfl, Is151, Gs151, 0, rfl, (by decide), Or.inr ⟨by omega, aws151_228⟩⟩
set_option maxRecDepth 4000 in
theorem c3_keepMark6 (G : GX l s0 D tys a0 dT) (I : Bd s)  : CT l s0 D A dT 40 (rmN 40) [.ref (A 25)] s (fun o t => Bd t ∧ Fm [20] [25] s t ∧ ∃ e, o = .inl (some (.int (Int32.ofInt e))) ∧ rng e ∧ ((iI s 20 ≤ 3 ∧ iI t 20 = iI s 20 + 1 ∧ e = iI t 20 ∧ MKW s t) ∨ (iI s 20 = 4 ∧ iI t 20 = 4 ∧ e = -1 ∧ SAM 25 s t))) := by
  refine ct_ofX G (by decide) (Nat.le_of_ble_eq_true rfl) (fun k X E ET hRt hXt q => ?_)
  show WS k 0 [(0, .ref (A 25))] [] _ 0 0
  have F : Fm [20] [25] s s := fm_rf _ _ s
  have aw0_25 : SAM 25 s s := sam_rf
  have b1 : (0 : Int) ≤ iI s 20 ∧ iI s 20 ≤ 4 := I.1 20
  refine z_aload_n X (x := A 25) (show cdA 40 0 = some (.aload_n 0, 1, 0, 0, 0) from rfl) (List.Mem.head _) ?_
  refine z_getI X 25 (show cdA 40 1 = some (.getfield 79, 3, 3, 5, 0) from rfl) (by decide) rfl rfl ?_
  have b2 : (0 : Int) ≤ iI s 20 ∧ iI s 20 ≤ 4 := I.1 20
  refine z_const X (show cdA 40 4 = some (.iconst 4, 1, 0, 0, 0) from rfl) ?_
  refine z_icmp_lt X (t := 10) (show cdA 40 5 = some (.if_icmp .lt 5, 3, 2, 0, 0) from rfl) (by decide) (rng_to _) (by decide) (fun g3 => ?_) (fun g3 => ?_)
  ·
    refine z_aload_n X (x := A 25) (show cdA 40 10 = some (.aload_n 0, 1, 0, 0, 0) from rfl) (List.Mem.head _) ?_
    refine s_getR X 25 (show cdA 40 11 = some (.getfield 9, 3, 3, 0, 0) from rfl) (by decide) rfl rfl ?_
    refine z_const X (show cdA 40 14 = some (.iconst 0, 1, 0, 0, 0) from rfl) ?_
    refine z_aload_n X (x := A 25) (show cdA 40 15 = some (.aload_n 0, 1, 0, 0, 0) from rfl) (List.Mem.head _) ?_
    refine s_getR X 25 (show cdA 40 16 = some (.getfield 25, 3, 3, 4, 0) from rfl) (by decide) rfl rfl ?_
    refine z_aload_n X (x := A 25) (show cdA 40 19 = some (.aload_n 0, 1, 0, 0, 0) from rfl) (List.Mem.head _) ?_
    refine z_getI X 25 (show cdA 40 20 = some (.getfield 79, 3, 3, 5, 0) from rfl) (by decide) rfl rfl ?_
    have b4 : (0 : Int) ≤ iI s 20 ∧ iI s 20 ≤ 4 := I.1 20
    refine z_sipush X (show cdA 40 23 = some (.sipush 128, 3, 0, 0, 128) from rfl) ?_
    refine z_mul X (show cdA 40 26 = some (.imul, 1, 0, 0, 0) from rfl) ?_
    refine z_sipush X (show cdA 40 27 = some (.sipush 128, 3, 0, 0, 128) from rfl) ?_
    refine z_copyF X I 26 30 (st := []) (show cdA 40 30 = some (.invokestatic 83, 3, 0, 5, 0) from rfl) (by decide) (by decide) rfl rfl (by omega) (by omega) (by omega) (show 0 + 128 ≤ ((128 : Nat) : Int) by omega) (show ((iI s 20) * 128) + 128 ≤ ((512 : Nat) : Int) by omega) (by decide) (by rw [E.2.2.2]; decide) (by rw [E.2.2.2]; exact Nat.le_of_ble_eq_true rfl) (fun s5 Is5 Fs5 cs5 => ?_)
    have Gs5 := fm_ts F Fs5 (by decide) (by decide)
    have ws5_20 : iI s5 20 = iI s 20 := fm_i Fs5 (by decide)
    refine z_aload_n X (x := A 25) (show cdA 40 33 = some (.aload_n 0, 1, 0, 0, 0) from rfl) (List.Mem.head _) ?_
    refine w_dup X.1 (ax_d X (show cdA 40 34 = some (.dup, 1, 0, 0, 0) from rfl)) rfl ?_
    refine z_getI X 25 (show cdA 40 35 = some (.getfield 79, 3, 3, 5, 0) from rfl) (by decide) rfl rfl ?_
    have b6 : (0 : Int) ≤ iI s5 20 ∧ iI s5 20 ≤ 4 := Is5.1 20
    refine z_const X (show cdA 40 38 = some (.iconst 1, 1, 0, 0, 0) from rfl) ?_
    refine z_add X (show cdA 40 39 = some (.iadd, 1, 0, 0, 0) from rfl) ?_
    refine s_putI X 25 (show cdA 40 40 = some (.putfield 79, 3, 3, 5, 0) from rfl) (by decide) rfl rfl (by decide) rfl rfl rfl ?_
    obtain ⟨s7, hs7⟩ : ∃ x0, x0 = uI s5 20 (Int32.ofInt ((iI s5 20) + 1)) := ⟨_, rfl⟩
    rw [← hs7]
    have Is7 : Bd s7 := by rw [hs7]; exact bd_I Is5 (show (0 : Int) ≤ ((iI s5 20) + 1) ∧ ((iI s5 20) + 1) ≤ 4 by first | exact ⟨oq_54f49eb5 b6.1, oq_83fe9f9d ws5_20 g3⟩ | omega) ⟨by first | exact oq_74de1e16 b6.1 | omega, by first | exact oq_45419e6e b6.2 | omega⟩
    have Fs7 := fm_I (x := Int32.ofInt ((iI s5 20) + 1)) Gs5 (show 20 ∈ _ by decide)
    rw [← hs7] at Fs7
    have vs7 : iI s7 20 = ((iI s5 20) + 1) := by rw [hs7]; exact iI_u ⟨by first | exact oq_74de1e16 b6.1 | omega, by first | exact oq_45419e6e b6.2 | omega⟩
    refine z_aload_n X (x := A 25) (show cdA 40 43 = some (.aload_n 0, 1, 0, 0, 0) from rfl) (List.Mem.head _) ?_
    refine z_getI X 25 (show cdA 40 44 = some (.getfield 79, 3, 3, 5, 0) from rfl) (by decide) rfl rfl ?_
    have b8 : (0 : Int) ≤ iI s7 20 ∧ iI s7 20 ≤ 4 := Is7.1 20
    exact w_iret X.1 q hRt rfl (ax_d X (show cdA 40 47 = some (.ireturn, 1, 0, 0, 0) from rfl)) (Nat.zero_le _) (Nat.zero_le _) ⟨_, rfl, Is7, Fs7, (iI s7 20), rfl, (rng_to _), Or.inl ⟨by first | exact oq_ac23314d g3 | omega, by first | exact oq_665cd23d vs7 ws5_20 | omega, by omega, fun j hj => by rw [(by rw [hs7]; rfl : iC s7 25 j = iC s5 25 j), cs5 j hj, show (0 : Int).toNat + (j - (iI s 20 * 128).toNat) = j - (iI s 20 * 128).toNat from Nat.zero_add _]; rfl⟩⟩
  ·
    refine z_const X (show cdA 40 8 = some (.iconst (-1), 1, 0, 0, 0) from rfl) ?_
    exact w_iret X.1 q hRt rfl (ax_d X (show cdA 40 9 = some (.ireturn, 1, 0, 0, 0) from rfl)) (Nat.zero_le _) (Nat.zero_le _) ⟨_, rfl, I, F, (-1), rfl, (by decide), Or.inr ⟨by first | exact oq_b0bc9e24 b2.2 g3 | omega, by first | exact oq_b0bc9e24 b2.2 g3 | omega, by decide, aw0_25⟩⟩
set_option maxRecDepth 4000 in
theorem c3_goBack6 (G : GX l s0 D tys a0 dT) (I : Bd s) (jPMJ : PMJ s)  : CT l s0 D A dT 41 (rmN 41) [.ref (A 25)] s (fun o t => Bd t ∧ Fm [20] [21, 1022, 1023] s t ∧ PMJ t ∧ ∃ e, o = .inl (some (.int (Int32.ofInt e))) ∧ rng e ∧ ((1 ≤ iI s 20 ∧ iI t 20 = iI s 20 - 1 ∧ e = iI t 20 ∧ BKQ (pfC s) (pfC t) (fun j => iC s 25 (128 * (iI s 20 - 1).toNat + j)) 128) ∨ (iI s 20 = 0 ∧ iI t 20 = 0 ∧ e = -1 ∧ SAM 21 s t))) := by
  refine ct_ofX G (by decide) (Nat.le_of_ble_eq_true rfl) (fun k X E ET hRt hXt q => ?_)
  show WS k 0 [(0, .ref (A 25))] [] _ 0 0
  have F : Fm [20] [21, 1022, 1023] s s := fm_rf _ _ s
  have aw0_21 : SAM 21 s s := sam_rf
  have b1 : (0 : Int) ≤ iI s 20 ∧ iI s 20 ≤ 4 := I.1 20
  have L21 : ∀ (n : Nat) (t : PS) (c : Int), Bd t → Fm [20] [21, 1022, 1023] s t → PMJ t → (BKQ (pfC s) (pfC t) (fun j => iC s 25 (128 * (iI s 20 - 1).toNat + j)) c) → (0 ≤ c ∧ c ≤ 128 ∧ 1 ≤ iI s 20 ∧ iI t 20 = iI s 20 - 1) → (128 - c : Int).toNat < n → (∀ (t' : PS) (c' : Int), Bd t' → Fm [20] [21, 1022, 1023] s t' → PMJ t' → (BKQ (pfC s) (pfC t') (fun j => iC s 25 (128 * (iI s 20 - 1).toNat + j)) c') → (c' = 128 ∧ 1 ≤ iI s 20 ∧ iI t' 20 = iI s 20 - 1) → WS k 55 [(0, .ref (A 25)), (1, .int (Int32.ofInt c'))] [] (Wd A dT t') 0 0) → WS k 21 [(0, .ref (A 25)), (1, .int (Int32.ofInt c))] [] (Wd A dT t) 0 0 := by
    intro n
    induction n with
    | zero =>
      intro t c I F jjPMJ hq hi hm kx
      exact absurd hm (Nat.not_lt_zero _)
    | succ n ih =>
      intro t c I F jjPMJ hq hi hm kx
      have b1001 : (0 : Int) ≤ iI t 20 ∧ iI t 20 ≤ 4 := I.1 20
      refine z_load_n X (x := c) (show cdA 41 21 = some (.iload_n 1, 1, 0, 0, 0) from rfl) (List.Mem.tail _ (List.Mem.head _)) ?_
      refine z_sipush X (show cdA 41 22 = some (.sipush 128, 3, 0, 0, 128) from rfl) ?_
      refine z_icmp_ge X (t := 55) (show cdA 41 25 = some (.if_icmp .ge 30, 3, 3, 0, 0) from rfl) (by decide) ⟨by first | exact oq_fa4e5087 hi.1 | omega, by first | exact oq_4ee82282 hi.2.1 | omega⟩ (by decide) (fun g1002 => ?_) (fun g1002 => ?_)
      ·
        refine WS_lv (lv := [(0, .ref (A 25)), (1, .int (Int32.ofInt c))]) (List.forall_mem_cons.mpr ⟨(List.Mem.head _), (List.forall_mem_cons.mpr ⟨(List.Mem.tail _ (List.Mem.head _)), (fun q h => absurd h List.not_mem_nil)⟩)⟩) ?_
        exact kx _ c I F jjPMJ hq (by first | exact ⟨oq_42fe298a hi.2.1 g1002, hi.2.2.1, hi.2.2.2⟩ | omega)
      ·
        refine z_aload_n X (x := A 25) (show cdA 41 28 = some (.aload_n 0, 1, 0, 0, 0) from rfl) (List.Mem.head _) ?_
        refine z_load_n X (x := c) (show cdA 41 29 = some (.iload_n 1, 1, 0, 0, 0) from rfl) (List.Mem.tail _ (List.Mem.head _)) ?_
        refine z_aload_n X (x := A 25) (show cdA 41 30 = some (.aload_n 0, 1, 0, 0, 0) from rfl) (List.Mem.head _) ?_
        refine s_getR X 25 (show cdA 41 31 = some (.getfield 25, 3, 3, 4, 0) from rfl) (by decide) rfl rfl ?_
        refine z_aload_n X (x := A 25) (show cdA 41 34 = some (.aload_n 0, 1, 0, 0, 0) from rfl) (List.Mem.head _) ?_
        refine z_getI X 25 (show cdA 41 35 = some (.getfield 79, 3, 3, 5, 0) from rfl) (by decide) rfl rfl ?_
        have b1003 : (0 : Int) ≤ iI t 20 ∧ iI t 20 ≤ 4 := I.1 20
        refine z_sipush X (show cdA 41 38 = some (.sipush 128, 3, 0, 0, 128) from rfl) ?_
        refine z_mul X (show cdA 41 41 = some (.imul, 1, 0, 0, 0) from rfl) ?_
        refine z_load_n X (x := c) (show cdA 41 42 = some (.iload_n 1, 1, 0, 0, 0) from rfl) (List.Mem.tail _ (List.Mem.head _)) ?_
        refine z_add X (show cdA 41 43 = some (.iadd, 1, 0, 0, 0) from rfl) ?_
        refine z_ald X 30 (show cdA 41 44 = some (.iaload, 1, 0, 0, 0) from rfl) (by decide) rfl (by first | exact oq_b2d75d80 hi.1 b1003.1 | omega) (show (((iI t 20) * 128) + c) < 512 by first | exact oq_f0fcc3a4 g1002 hi.2.2.2 b1.2 | omega) (by decide) ?_
        have b1004 : ((-1) : Int) ≤ iC t 25 ((((iI t 20) * 128) + c)).toNat ∧ iC t 25 ((((iI t 20) * 128) + c)).toNat ≤ 7 := I.2 25 _ (show ((((iI t 20) * 128) + c)).toNat < 512 by first | exact oq_c430ddba g1002 hi.2.2.2 b1.2 | omega)
        refine z_callV X 25 (rm := rmN 28) (As := [.int (Int32.ofInt c), .int (Int32.ofInt (iC t 25 ((((iI t 20) * 128) + c)).toNat))]) (st := []) (show cdA 41 45 = some (.invokevirtual 36, 3, 28, 0, 0) from rfl) rfl (by decide) rfl (by rw [E.1, E.2.1, E.2.2.1]; exact c3_put3 G I jjPMJ (by first | exact ⟨hi.1, oq_04367f15 g1002⟩ | omega) (by first | exact ⟨b1004.1, b1004.2⟩ | omega)) ⟨by rw [E.2.2.2]; exact (show (rmN 28).frames + 1 ≤ (rmN 41).frames by decide), by rw [E.2.2.2]; exact (show 8 + (mNL (miB 28) + 11) + (rmN 28).locals ≤ (rmN 41).locals by decide), by rw [E.2.2.2]; exact (show 0 + (rmN 28).cells ≤ (rmN 41).cells by decide), by rw [E.2.2.2]; exact (show 0 + (rmN 28).slots ≤ (rmN 41).slots by decide)⟩ (Nat.le_of_ble_eq_true rfl) (fun vv s1005 hq => ?_) (fun ee s1005 hq => ?_)
        rotate_left
        · obtain ⟨Is1005, Fs1005, JPMJ_s1005, e1006, hv, hrs1005, hps1005⟩ := hq; cases hv
        obtain ⟨Is1005, Fs1005, JPMJ_s1005, e1006, hv, hrs1005, hps1005⟩ := hq
        cases hv
        have Gs1005 := fm_ts F Fs1005 (by decide) (by decide)
        have ws1005_20 : iI s1005 20 = iI t 20 := fm_i Fs1005 (by decide)
        show WS k 48 [(0, .ref (A 25)), (1, .int (Int32.ofInt c))] [.int (Int32.ofInt e1006)] (Wd A dT s1005) 0 0
        refine w_pop X.1 (ax_d X (show cdA 41 48 = some (.pop, 1, 0, 0, 0) from rfl)) rfl ?_
        refine z_inc X (x := c) (lv' := [(1, .int (Int32.ofInt (c + 1))), (0, .ref (A 25))]) (show cdA 41 49 = some (.iinc 1 1, 3, 0, 0, 0) from rfl) (by decide) (List.Mem.tail _ (List.Mem.head _)) (fun _ h => h) ?_
        refine z_goto X (t := 21) (show cdA 41 52 = some (.goto (-31), 3, 0, 0, 0) from rfl) (by decide) ?_
        refine WS_lv (lv := [(0, .ref (A 25)), (1, .int (Int32.ofInt (c + 1)))]) (List.forall_mem_cons.mpr ⟨(List.Mem.tail _ (List.Mem.head _)), (List.forall_mem_cons.mpr ⟨(List.Mem.head _), (fun q h => absurd h List.not_mem_nil)⟩)⟩) ?_
        exact ih _ (c + 1) Is1005 Gs1005 JPMJ_s1005 (bkq_up hq (by omega) (by show iC t 25 ((iI t 20 * 128) + c).toNat = iC s 25 (128 * (iI s 20 - 1).toNat + (c : Int).toNat); rw [show ((iI t 20 * 128) + c).toNat = 128 * (iI s 20 - 1).toNat + (c : Int).toNat by omega]; exact fm_c F (by decide)) (upf_upd hps1005.2)) (by first | exact ⟨oq_54f49eb5 hi.1, oq_d2afb425 g1002, hi.2.2.1, oq_a42238f2 ws1005_20 hi.2.2.2⟩ | omega) (by first | exact qk_me hm (by decide) (oq_c268b7bd g1002) | omega) kx
  refine z_aload_n X (x := A 25) (show cdA 41 0 = some (.aload_n 0, 1, 0, 0, 0) from rfl) (List.Mem.head _) ?_
  refine z_getI X 25 (show cdA 41 1 = some (.getfield 79, 3, 3, 5, 0) from rfl) (by decide) rfl rfl ?_
  have b2 : (0 : Int) ≤ iI s 20 ∧ iI s 20 ≤ 4 := I.1 20
  refine z_if_gt X (t := 9) (show cdA 41 4 = some (.ifCond .gt 5, 3, 4, 0, 0) from rfl) (by decide) (rng_to _) (fun g3 => ?_) (fun g3 => ?_)
  ·
    refine z_aload_n X (x := A 25) (show cdA 41 9 = some (.aload_n 0, 1, 0, 0, 0) from rfl) (List.Mem.head _) ?_
    refine w_dup X.1 (ax_d X (show cdA 41 10 = some (.dup, 1, 0, 0, 0) from rfl)) rfl ?_
    refine z_getI X 25 (show cdA 41 11 = some (.getfield 79, 3, 3, 5, 0) from rfl) (by decide) rfl rfl ?_
    have b4 : (0 : Int) ≤ iI s 20 ∧ iI s 20 ≤ 4 := I.1 20
    refine z_const X (show cdA 41 14 = some (.iconst 1, 1, 0, 0, 0) from rfl) ?_
    refine z_sub X (show cdA 41 15 = some (.isub, 1, 0, 0, 0) from rfl) ?_
    refine s_putI X 25 (show cdA 41 16 = some (.putfield 79, 3, 3, 5, 0) from rfl) (by decide) rfl rfl (by decide) rfl rfl rfl ?_
    obtain ⟨s5, hs5⟩ : ∃ x0, x0 = uI s 20 (Int32.ofInt ((iI s 20) - 1)) := ⟨_, rfl⟩
    rw [← hs5]
    have Is5 : Bd s5 := by rw [hs5]; exact bd_I I (show (0 : Int) ≤ ((iI s 20) - 1) ∧ ((iI s 20) - 1) ≤ 4 by first | exact ⟨oq_a4f22177 g3, oq_f3f8f749 b4.2⟩ | omega) ⟨by first | exact oq_c1e961c7 b4.1 | omega, by first | exact oq_dc10bb6e b4.2 | omega⟩
    have Fs5 := fm_I (x := Int32.ofInt ((iI s 20) - 1)) F (show 20 ∈ _ by decide)
    rw [← hs5] at Fs5
    have vs5 : iI s5 20 = ((iI s 20) - 1) := by rw [hs5]; exact iI_u ⟨by first | exact oq_c1e961c7 b4.1 | omega, by first | exact oq_dc10bb6e b4.2 | omega⟩
    have aws5_21 : SAM 21 s s5 := by rw [hs5]; exact aw0_21
    have fs5 : Fm [20] [] s s5 := by rw [hs5]; exact fm_I (fm_rf _ _ _) (show 20 ∈ _ by decide)
    have JPMJ_s5 : PMJ s5 := PMJ_fm fs5 (by decide) jPMJ
    refine z_const X (show cdA 41 19 = some (.iconst 0, 1, 0, 0, 0) from rfl) ?_
    refine z_store_n X (lv' := [(1, .int (Int32.ofInt 0)), (0, .ref (A 25))]) (show cdA 41 20 = some (.istore_n 1, 1, 0, 0, 0) from rfl) (by decide) (fun _ h => h) ?_
    refine WS_lv (lv := [(0, .ref (A 25)), (1, .int (Int32.ofInt 0))]) (List.forall_mem_cons.mpr ⟨(List.Mem.tail _ (List.Mem.head _)), (List.forall_mem_cons.mpr ⟨(List.Mem.head _), (fun q h => absurd h List.not_mem_nil)⟩)⟩) ?_
    refine L21 ((128 - 0 : Int).toNat + 1) s5 0 Is5 Fs5 JPMJ_s5 (bkq_s bkq_0 rfl (show pfC s = pfC s5 from (funext aws5_21).symm)) (by first | exact ⟨by decide, by decide, oq_a1517f2e g3, vs5⟩ | omega) (Nat.lt_succ_self _) ?_
    intro s6 x7 Is6 Fs6 JPMJ_s6 Qs6 hs6
    have b8 : (0 : Int) ≤ iI s6 20 ∧ iI s6 20 ≤ 4 := Is6.1 20
    refine z_aload_n X (x := A 25) (show cdA 41 55 = some (.aload_n 0, 1, 0, 0, 0) from rfl) (List.Mem.head _) ?_
    refine z_getI X 25 (show cdA 41 56 = some (.getfield 79, 3, 3, 5, 0) from rfl) (by decide) rfl rfl ?_
    have b9 : (0 : Int) ≤ iI s6 20 ∧ iI s6 20 ≤ 4 := Is6.1 20
    exact w_iret X.1 q hRt rfl (ax_d X (show cdA 41 59 = some (.ireturn, 1, 0, 0, 0) from rfl)) (Nat.zero_le _) (Nat.zero_le _) ⟨_, rfl, Is6, Fs6, JPMJ_s6, (iI s6 20), rfl, (rng_to _), Or.inl ⟨by first | exact hs6.2.1 | omega, by first | exact hs6.2.2 | omega, by omega, by have z := Qs6; rw [show x7 = 128 by omega] at z; exact z⟩⟩
  ·
    refine z_const X (show cdA 41 7 = some (.iconst (-1), 1, 0, 0, 0) from rfl) ?_
    exact w_iret X.1 q hRt rfl (ax_d X (show cdA 41 8 = some (.ireturn, 1, 0, 0, 0) from rfl)) (Nat.zero_le _) (Nat.zero_le _) ⟨_, rfl, I, F, jPMJ, (-1), rfl, (by decide), Or.inr ⟨by first | exact oq_17e029b3 g3 b2.1 | omega, by first | exact oq_17e029b3 g3 b2.1 | omega, by decide, aw0_21⟩⟩
set_option maxRecDepth 4000 in
theorem cs_mark6 (G : GX l s0 D tys a0 dT) (I : Bd s)  : CT l s0 D A dT 176 (rmN 176) [.ref (A 0)] s (fun o t => Bd t ∧ Fm [20] [25] s t ∧ ∃ e, o = .inl (some (.int (Int32.ofInt e))) ∧ rng e ∧ ((iI s 20 ≤ 3 ∧ iI t 20 = iI s 20 + 1 ∧ e = iI t 20 ∧ MKW s t) ∨ (iI s 20 = 4 ∧ iI t 20 = 4 ∧ e = -1 ∧ SAM 25 s t))) := by
  refine ct_ofX G (by decide) (Nat.le_of_ble_eq_true rfl) (fun k X E ET hRt hXt q => ?_)
  show WS k 0 [(0, .ref (A 0))] [] _ 0 0
  have F : Fm [20] [25] s s := fm_rf _ _ s
  have aw0_25 : SAM 25 s s := sam_rf
  have b1 : (0 : Int) ≤ iI s 20 ∧ iI s 20 ≤ 4 := I.1 20
  refine z_aload_n X (x := A 0) (show cdA 176 0 = some (.aload_n 0, 1, 0, 0, 0) from rfl) (List.Mem.head _) ?_
  refine s_getR X 0 (show cdA 176 1 = some (.getfield 35, 3, 11, 3, 0) from rfl) (by decide) rfl rfl ?_
  refine z_callV X 25 (rm := rmN 40) (As := []) (st := []) (show cdA 176 4 = some (.invokevirtual 377, 3, 40, 0, 0) from rfl) rfl (by decide) rfl (by rw [E.1, E.2.1, E.2.2.1]; exact c3_keepMark6 G I ) ⟨by rw [E.2.2.2]; exact (show (rmN 40).frames + 1 ≤ (rmN 176).frames by decide), by rw [E.2.2.2]; exact (show 8 + (mNL (miB 40) + 11) + (rmN 40).locals ≤ (rmN 176).locals by decide), by rw [E.2.2.2]; exact (show 0 + (rmN 40).cells ≤ (rmN 176).cells by decide), by rw [E.2.2.2]; exact (show 0 + (rmN 40).slots ≤ (rmN 176).slots by decide)⟩ (Nat.le_of_ble_eq_true rfl) (fun vv s2 hq => ?_) (fun ee s2 hq => ?_)
  rotate_left
  · obtain ⟨Is2, Fs2, e3, hv, hrs2, hps2⟩ := hq; cases hv
  obtain ⟨Is2, Fs2, e3, hv, hrs2, hps2⟩ := hq
  cases hv
  have Gs2 := fm_ts F Fs2 (by decide) (by decide)
  have b4 : (0 : Int) ≤ iI s2 20 ∧ iI s2 20 ≤ 4 := Is2.1 20
  show WS k 7 [(0, .ref (A 0))] [.int (Int32.ofInt e3)] (Wd A dT s2) 0 0
  exact w_iret X.1 q hRt rfl (ax_d X (show cdA 176 7 = some (.ireturn, 1, 0, 0, 0) from rfl)) (Nat.zero_le _) (Nat.zero_le _) ⟨_, rfl, Is2, Gs2, e3, rfl, hrs2, hps2⟩
set_option maxRecDepth 4000 in
theorem cs_back6 (G : GX l s0 D tys a0 dT) (I : Bd s) (jPMJ : PMJ s)  : CT l s0 D A dT 177 (rmN 177) [.ref (A 0)] s (fun o t => Bd t ∧ Fm [20] [21, 1022, 1023] s t ∧ PMJ t ∧ ∃ e, o = .inl (some (.int (Int32.ofInt e))) ∧ rng e ∧ ((1 ≤ iI s 20 ∧ iI t 20 = iI s 20 - 1 ∧ e = iI t 20 ∧ BKQ (pfC s) (pfC t) (fun j => iC s 25 (128 * (iI s 20 - 1).toNat + j)) 128) ∨ (iI s 20 = 0 ∧ iI t 20 = 0 ∧ e = -1 ∧ SAM 21 s t))) := by
  refine ct_ofX G (by decide) (Nat.le_of_ble_eq_true rfl) (fun k X E ET hRt hXt q => ?_)
  show WS k 0 [(0, .ref (A 0))] [] _ 0 0
  have F : Fm [20] [21, 1022, 1023] s s := fm_rf _ _ s
  have b1 : (0 : Int) ≤ iI s 20 ∧ iI s 20 ≤ 4 := I.1 20
  refine z_aload_n X (x := A 0) (show cdA 177 0 = some (.aload_n 0, 1, 0, 0, 0) from rfl) (List.Mem.head _) ?_
  refine s_getR X 0 (show cdA 177 1 = some (.getfield 35, 3, 11, 3, 0) from rfl) (by decide) rfl rfl ?_
  refine z_callV X 25 (rm := rmN 41) (As := []) (st := []) (show cdA 177 4 = some (.invokevirtual 380, 3, 41, 0, 0) from rfl) rfl (by decide) rfl (by rw [E.1, E.2.1, E.2.2.1]; exact c3_goBack6 G I jPMJ ) ⟨by rw [E.2.2.2]; exact (show (rmN 41).frames + 1 ≤ (rmN 177).frames by decide), by rw [E.2.2.2]; exact (show 8 + (mNL (miB 41) + 11) + (rmN 41).locals ≤ (rmN 177).locals by decide), by rw [E.2.2.2]; exact (show 0 + (rmN 41).cells ≤ (rmN 177).cells by decide), by rw [E.2.2.2]; exact (show 0 + (rmN 41).slots ≤ (rmN 177).slots by decide)⟩ (Nat.le_of_ble_eq_true rfl) (fun vv s2 hq => ?_) (fun ee s2 hq => ?_)
  rotate_left
  · obtain ⟨Is2, Fs2, JPMJ_s2, e3, hv, hrs2, hps2⟩ := hq; cases hv
  obtain ⟨Is2, Fs2, JPMJ_s2, e3, hv, hrs2, hps2⟩ := hq
  cases hv
  have Gs2 := fm_ts F Fs2 (by decide) (by decide)
  have b4 : (0 : Int) ≤ iI s2 20 ∧ iI s2 20 ≤ 4 := Is2.1 20
  show WS k 7 [(0, .ref (A 0))] [.int (Int32.ofInt e3)] (Wd A dT s2) 0 0
  exact w_iret X.1 q hRt rfl (ax_d X (show cdA 177 7 = some (.ireturn, 1, 0, 0, 0) from rfl)) (Nat.zero_le _) (Nat.zero_le _) ⟨_, rfl, Is2, Gs2, JPMJ_s2, e3, rfl, hrs2, hps2⟩
set_option maxRecDepth 4000 in
theorem k_mark6 (G : GX l s0 D tys a0 dT) (I : Bd s)  : CT l s0 D A dT 293 (rmN 293) [.ref (A 179)] s (fun o t => Bd t ∧ Fm [73, 98] [241, 242, 243, 244] s t ∧ ∃ e, o = .inl (some (.int (Int32.ofInt e))) ∧ rng e ∧ (((iI s 98) ≤ 3 ∧ iI t 98 = (iI s 98) + 1 ∧ e = iI t 98 ∧ iI t 73 = 0 ∧ MKP (iI s 98) 128 s t) ∨ ((iI s 98) = 4 ∧ iI t 98 = 4 ∧ e = -1 ∧ iI t 73 = 0 ∧ ∀ k j : Nat, k < 4 → iC t (241 + k) j = iC s (241 + k) j))) := by
  refine ct_of G (by decide) (Nat.le_of_ble_eq_true rfl) (fun k X E hRt hXt q => ?_)
  show WS k 0 [(0, .ref (A 179))] [] _ 0 0
  have F : Fm [73, 98] [241, 242, 243, 244] s s := fm_rf _ _ s
  have b1 : (0 : Int) ≤ iI s 73 ∧ iI s 73 ≤ 3 := I.1 73
  have b2 : (0 : Int) ≤ iI s 98 ∧ iI s 98 ≤ 4 := I.1 98
  have L17 : ∀ (n : Nat) (t : PS) (c : Int), Bd t → Fm [73, 98] [241, 242, 243, 244] s t → (MKP (iI s 98) c s t) → ((0 ≤ c ∧ c ≤ 128) ∧ (0 ≤ (iI s 98) ∧ (iI s 98) ≤ 3) ∧ iI t 98 = (iI s 98) ∧ iI t 73 = 0) → (128 - c : Int).toNat < n → (∀ (t' : PS) (c' : Int), Bd t' → Fm [73, 98] [241, 242, 243, 244] s t' → (MKP (iI s 98) c' s t') → (c' = 128 ∧ (0 ≤ (iI s 98) ∧ (iI s 98) ≤ 3) ∧ iI t' 98 = (iI s 98) ∧ iI t' 73 = 0) → WS k 47 [(0, .ref (A 179)), (1, .int (Int32.ofInt c'))] [] (Wd A dT t') 0 0) → WS k 17 [(0, .ref (A 179)), (1, .int (Int32.ofInt c))] [] (Wd A dT t) 0 0 := by
    intro n
    induction n with
    | zero =>
      intro t c I F hq hi hm kx
      exact absurd hm (Nat.not_lt_zero _)
    | succ n ih =>
      intro t c I F hq hi hm kx
      have b1001 : (0 : Int) ≤ iI t 73 ∧ iI t 73 ≤ 3 := I.1 73
      have b1002 : (0 : Int) ≤ iI t 98 ∧ iI t 98 ≤ 4 := I.1 98
      refine z_load_n X (x := c) (show cdA 293 17 = some (.iload_n 1, 1, 0, 0, 0) from rfl) (List.Mem.tail _ (List.Mem.head _)) ?_
      refine z_sipush X (show cdA 293 18 = some (.sipush 128, 3, 0, 0, 128) from rfl) ?_
      refine z_icmp_ge X (t := 47) (show cdA 293 21 = some (.if_icmp .ge 26, 3, 3, 0, 0) from rfl) (by decide) ⟨by first | exact oq_fa4e5087 hi.1.1 | omega, by first | exact oq_4ee82282 hi.1.2 | omega⟩ (by decide) (fun g1003 => ?_) (fun g1003 => ?_)
      ·
        refine WS_lv (lv := [(0, .ref (A 179)), (1, .int (Int32.ofInt c))]) (List.forall_mem_cons.mpr ⟨(List.Mem.head _), (List.forall_mem_cons.mpr ⟨(List.Mem.tail _ (List.Mem.head _)), (fun q h => absurd h List.not_mem_nil)⟩)⟩) ?_
        exact kx _ c I F hq (by first | exact ⟨oq_42fe298a hi.1.2 g1003, And.intro (hi.2.1.1) (hi.2.1.2), hi.2.2.1, hi.2.2.2⟩ | omega)
      ·
        refine z_aload_n X (x := A 179) (show cdA 293 24 = some (.aload_n 0, 1, 0, 0, 0) from rfl) (List.Mem.head _) ?_
        refine s_getR X 179 (show cdA 293 25 = some (.getfield 113, 3, 12, 58, 0) from rfl) (by decide) rfl rfl ?_
        refine z_aload_n X (x := A 179) (show cdA 293 28 = some (.aload_n 0, 1, 0, 0, 0) from rfl) (List.Mem.head _) ?_
        refine z_getI X 179 (show cdA 293 29 = some (.getfield 468, 3, 12, 47, 0) from rfl) (by decide) rfl rfl ?_
        have b1004 : (0 : Int) ≤ iI t 98 ∧ iI t 98 ≤ 4 := I.1 98
        refine z_aald X rw_269 (show cdA 293 32 = some (.aaload, 1, 0, 0, 0) from rfl) (by first | exact b1004.1 | omega) (show (iI t 98) < 4 by first | exact oq_92f1e732 hi.2.2.1 hi.2.1.2 | omega) (by decide) ?_
        refine z_load_n X (x := c) (show cdA 293 33 = some (.iload_n 1, 1, 0, 0, 0) from rfl) (List.Mem.tail _ (List.Mem.head _)) ?_
        refine z_aload_n X (x := A 179) (show cdA 293 34 = some (.aload_n 0, 1, 0, 0, 0) from rfl) (List.Mem.head _) ?_
        refine s_getR X 179 (show cdA 293 35 = some (.getfield 70, 3, 12, 35, 0) from rfl) (by decide) rfl rfl ?_
        refine z_load_n X (x := c) (show cdA 293 38 = some (.iload_n 1, 1, 0, 0, 0) from rfl) (List.Mem.tail _ (List.Mem.head _)) ?_
        refine z_ald X 256 (show cdA 293 39 = some (.iaload, 1, 0, 0, 0) from rfl) (by decide) rfl (by first | exact hi.1.1 | omega) (show c < 128 by first | exact g1003 | omega) (by decide) ?_
        have b1005 : ((-1) : Int) ≤ iC t 228 (c).toNat ∧ iC t 228 (c).toNat ≤ 7 := I.2 228 _ (show (c).toNat < 128 by first | exact oq_afb89947 g1003 | omega)
        refine z_ast2 X rw_269 (show cdA 293 40 = some (.iastore, 1, 0, 0, 0) from rfl) (show ((iI t 98) : Int).toNat < 4 by first | exact oq_4c4a1baf hi.2.2.1 hi.2.1.2 | omega) (by first | exact hi.1.1 | omega) (show c < 128 by first | exact g1003 | omega) (by decide) ?_
        obtain ⟨s1006, hs1006⟩ : ∃ x0, x0 = uC t (241 + ((iI t 98) : Int).toNat) (c : Int).toNat (Int32.ofInt (iC t 228 (c).toNat)) := ⟨_, rfl⟩
        rw [← hs1006]
        have Is1006 : Bd s1006 := by rw [hs1006]; exact rw_st rw_269 I (show ((iI t 98) : Int).toNat < 4 by first | exact oq_4c4a1baf hi.2.2.1 hi.2.1.2 | omega) (show ((-1) : Int) ≤ (iC t 228 (c).toNat) ∧ (iC t 228 (c).toNat) ≤ 7 by first | exact ⟨b1005.1, b1005.2⟩ | omega) (rng_to _)
        have Fs1006 := fm_C (i := (c : Int).toNat) (x := Int32.ofInt (iC t 228 (c).toNat)) F ((show ∀ j, j < 4 → 241 + j ∈ _ by decide) ((iI t 98) : Int).toNat (by first | exact oq_4c4a1baf hi.2.2.1 hi.2.1.2 | omega))
        rw [← hs1006] at Fs1006
        have ws1006_73 : iI s1006 73 = iI t 73 := by rw [hs1006]; rfl
        have ws1006_98 : iI s1006 98 = iI t 98 := by rw [hs1006]; rfl
        refine z_inc X (x := c) (lv' := [(1, .int (Int32.ofInt (c + 1))), (0, .ref (A 179))]) (show cdA 293 41 = some (.iinc 1 1, 3, 0, 0, 0) from rfl) (by decide) (List.Mem.tail _ (List.Mem.head _)) (fun _ h => h) ?_
        refine z_goto X (t := 17) (show cdA 293 44 = some (.goto (-27), 3, 0, 0, 0) from rfl) (by decide) ?_
        refine WS_lv (lv := [(0, .ref (A 179)), (1, .int (Int32.ofInt (c + 1)))]) (List.forall_mem_cons.mpr ⟨(List.Mem.tail _ (List.Mem.head _)), (List.forall_mem_cons.mpr ⟨(List.Mem.head _), (fun q h => absurd h List.not_mem_nil)⟩)⟩) ?_
        exact ih _ (c + 1) Is1006 Fs1006 (mkp_up hq (by omega) (by omega) (by rw [hs1006, show iI t 98 = (iI s 98) by omega]) (rng_to _) (fm_c F (by decide))) (by first | exact ⟨And.intro (oq_54f49eb5 hi.1.1) (oq_d2afb425 g1003), And.intro (hi.2.1.1) (hi.2.1.2), oq_1aa5be9e ws1006_98 hi.2.2.1, oq_333640b7 ws1006_73 hi.2.2.2 b1001.1⟩ | omega) (by first | exact qk_me hm (by decide) (oq_c268b7bd g1003) | omega) kx
  refine z_aload_n X (x := A 179) (show cdA 293 0 = some (.aload_n 0, 1, 0, 0, 0) from rfl) (List.Mem.head _) ?_
  refine z_const X (show cdA 293 1 = some (.iconst 0, 1, 0, 0, 0) from rfl) ?_
  refine s_putI X 179 (show cdA 293 2 = some (.putfield 172, 3, 12, 0, 0) from rfl) (by decide) rfl rfl (by decide) rfl rfl rfl ?_
  obtain ⟨s3, hs3⟩ : ∃ x0, x0 = uI s 73 (Int32.ofInt 0) := ⟨_, rfl⟩
  rw [← hs3]
  have Is3 : Bd s3 := by rw [hs3]; exact bd_I I (show (0 : Int) ≤ 0 ∧ 0 ≤ 3 by first | exact ⟨by decide, by decide⟩ | omega) (by decide)
  have Fs3 := fm_I (x := Int32.ofInt 0) F (show 73 ∈ _ by decide)
  rw [← hs3] at Fs3
  have vs3 : iI s3 73 = 0 := by rw [hs3]; exact iI_u (by decide)
  have ws3_98 : iI s3 98 = iI s 98 := by rw [hs3]; rfl
  refine z_aload_n X (x := A 179) (show cdA 293 5 = some (.aload_n 0, 1, 0, 0, 0) from rfl) (List.Mem.head _) ?_
  refine z_getI X 179 (show cdA 293 6 = some (.getfield 468, 3, 12, 47, 0) from rfl) (by decide) rfl rfl ?_
  have b4 : (0 : Int) ≤ iI s3 98 ∧ iI s3 98 ≤ 4 := Is3.1 98
  refine z_const X (show cdA 293 9 = some (.iconst 4, 1, 0, 0, 0) from rfl) ?_
  refine z_icmp_ne X (t := 15) (show cdA 293 10 = some (.if_icmp .ne 5, 3, 1, 0, 0) from rfl) (by decide) (rng_to _) (by decide) (fun g5 => ?_) (fun g5 => ?_)
  ·
    refine z_const X (show cdA 293 15 = some (.iconst 0, 1, 0, 0, 0) from rfl) ?_
    refine z_store_n X (lv' := [(1, .int (Int32.ofInt 0)), (0, .ref (A 179))]) (show cdA 293 16 = some (.istore_n 1, 1, 0, 0, 0) from rfl) (by decide) (fun _ h => h) ?_
    refine WS_lv (lv := [(0, .ref (A 179)), (1, .int (Int32.ofInt 0))]) (List.forall_mem_cons.mpr ⟨(List.Mem.tail _ (List.Mem.head _)), (List.forall_mem_cons.mpr ⟨(List.Mem.head _), (fun q h => absurd h List.not_mem_nil)⟩)⟩) ?_
    refine L17 ((128 - 0 : Int).toNat + 1) s3 0 Is3 Fs3 (mkp_0 (fun k j hk => by rw [hs3]; rfl)) (by first | exact ⟨And.intro (by decide) (by decide), oq_ecc19de6 g5 b4.2 ws3_98 b2.1, ws3_98, vs3⟩ | omega) (Nat.lt_succ_self _) ?_
    intro s6 x7 Is6 Fs6 Qs6 hs6
    have b8 : (0 : Int) ≤ iI s6 73 ∧ iI s6 73 ≤ 3 := Is6.1 73
    have b9 : (0 : Int) ≤ iI s6 98 ∧ iI s6 98 ≤ 4 := Is6.1 98
    refine z_aload_n X (x := A 179) (show cdA 293 47 = some (.aload_n 0, 1, 0, 0, 0) from rfl) (List.Mem.head _) ?_
    refine w_dup X.1 (ax_d X (show cdA 293 48 = some (.dup, 1, 0, 0, 0) from rfl)) rfl ?_
    refine z_getI X 179 (show cdA 293 49 = some (.getfield 468, 3, 12, 47, 0) from rfl) (by decide) rfl rfl ?_
    have b10 : (0 : Int) ≤ iI s6 98 ∧ iI s6 98 ≤ 4 := Is6.1 98
    refine z_const X (show cdA 293 52 = some (.iconst 1, 1, 0, 0, 0) from rfl) ?_
    refine z_add X (show cdA 293 53 = some (.iadd, 1, 0, 0, 0) from rfl) ?_
    refine s_putI X 179 (show cdA 293 54 = some (.putfield 468, 3, 12, 47, 0) from rfl) (by decide) rfl rfl (by decide) rfl rfl rfl ?_
    obtain ⟨s11, hs11⟩ : ∃ x0, x0 = uI s6 98 (Int32.ofInt ((iI s6 98) + 1)) := ⟨_, rfl⟩
    rw [← hs11]
    have Is11 : Bd s11 := by rw [hs11]; exact bd_I Is6 (show (0 : Int) ≤ ((iI s6 98) + 1) ∧ ((iI s6 98) + 1) ≤ 4 by first | exact ⟨oq_54f49eb5 b10.1, oq_78efddbb hs6.2.2.1 hs6.2.1.2⟩ | omega) ⟨by first | exact oq_74de1e16 b10.1 | omega, by first | exact oq_45419e6e b10.2 | omega⟩
    have Fs11 := fm_I (x := Int32.ofInt ((iI s6 98) + 1)) Fs6 (show 98 ∈ _ by decide)
    rw [← hs11] at Fs11
    have vs11 : iI s11 98 = ((iI s6 98) + 1) := by rw [hs11]; exact iI_u ⟨by first | exact oq_74de1e16 b10.1 | omega, by first | exact oq_45419e6e b10.2 | omega⟩
    have ws11_73 : iI s11 73 = iI s6 73 := by rw [hs11]; rfl
    refine z_aload_n X (x := A 179) (show cdA 293 57 = some (.aload_n 0, 1, 0, 0, 0) from rfl) (List.Mem.head _) ?_
    refine z_getI X 179 (show cdA 293 58 = some (.getfield 468, 3, 12, 47, 0) from rfl) (by decide) rfl rfl ?_
    have b12 : (0 : Int) ≤ iI s11 98 ∧ iI s11 98 ≤ 4 := Is11.1 98
    exact w_iret X.1 q hRt rfl (ax_d X (show cdA 293 61 = some (.ireturn, 1, 0, 0, 0) from rfl)) (Nat.zero_le _) (Nat.zero_le _) ⟨_, rfl, Is11, Fs11, (iI s11 98), rfl, (rng_to _), Or.inl ⟨by first | exact hs6.2.1.2 | omega, by first | exact oq_665cd23d vs11 hs6.2.2.1 | omega, by omega, by first | exact oq_333640b7 ws11_73 hs6.2.2.2 b8.1 | omega, mkp_I (by have z := Qs6; rw [show x7 = 128 by omega] at z; exact z) (fun k j hk => by rw [hs11]; rfl)⟩⟩
  ·
    refine z_const X (show cdA 293 13 = some (.iconst (-1), 1, 0, 0, 0) from rfl) ?_
    exact w_iret X.1 q hRt rfl (ax_d X (show cdA 293 14 = some (.ireturn, 1, 0, 0, 0) from rfl)) (Nat.zero_le _) (Nat.zero_le _) ⟨_, rfl, Is3, Fs3, (-1), rfl, (by decide), Or.inr ⟨by omega, by omega, by omega, by omega, fun k j hk => by rw [hs3]; rfl⟩⟩
set_option maxRecDepth 4000 in
theorem k_back6 (G : GX l s0 D tys a0 dT) (I : Bd s)  : CT l s0 D A dT 294 (rmN 294) [.ref (A 179)] s (fun o t => Bd t ∧ Fm [73, 98] [228] s t ∧ ∃ e, o = .inl (some (.int (Int32.ofInt e))) ∧ rng e ∧ ((1 ≤ (iI s 98) ∧ iI t 98 = (iI s 98) - 1 ∧ e = iI t 98 ∧ iI t 73 = 0 ∧ BKQ (pfM s) (pfM t) (fun j => iC s (241 + ((iI s 98) - 1).toNat) j) 128) ∨ ((iI s 98) = 0 ∧ iI t 98 = 0 ∧ e = -1 ∧ iI t 73 = 0 ∧ SAM 228 s t))) := by
  refine ct_of G (by decide) (Nat.le_of_ble_eq_true rfl) (fun k X E hRt hXt q => ?_)
  show WS k 0 [(0, .ref (A 179))] [] _ 0 0
  have F : Fm [73, 98] [228] s s := fm_rf _ _ s
  have aw0_228 : SAM 228 s s := sam_rf
  have b1 : (0 : Int) ≤ iI s 73 ∧ iI s 73 ≤ 3 := I.1 73
  have b2 : (0 : Int) ≤ iI s 98 ∧ iI s 98 ≤ 4 := I.1 98
  have L26 : ∀ (n : Nat) (t : PS) (c : Int), Bd t → Fm [73, 98] [228] s t → (BKQ (pfM s) (pfM t) (fun j => iC s (241 + ((iI s 98) - 1).toNat) j) c) → ((0 ≤ c ∧ c ≤ 128) ∧ (1 ≤ (iI s 98) ∧ (iI s 98) ≤ 4) ∧ iI t 98 = (iI s 98) - 1 ∧ iI t 73 = 0) → (128 - c : Int).toNat < n → (∀ (t' : PS) (c' : Int), Bd t' → Fm [73, 98] [228] s t' → (BKQ (pfM s) (pfM t') (fun j => iC s (241 + ((iI s 98) - 1).toNat) j) c') → (c' = 128 ∧ 1 ≤ (iI s 98) ∧ iI t' 98 = (iI s 98) - 1 ∧ iI t' 73 = 0) → WS k 56 [(0, .ref (A 179)), (1, .int (Int32.ofInt c'))] [] (Wd A dT t') 0 0) → WS k 26 [(0, .ref (A 179)), (1, .int (Int32.ofInt c))] [] (Wd A dT t) 0 0 := by
    intro n
    induction n with
    | zero =>
      intro t c I F hq hi hm kx
      exact absurd hm (Nat.not_lt_zero _)
    | succ n ih =>
      intro t c I F hq hi hm kx
      have b1001 : (0 : Int) ≤ iI t 73 ∧ iI t 73 ≤ 3 := I.1 73
      have b1002 : (0 : Int) ≤ iI t 98 ∧ iI t 98 ≤ 4 := I.1 98
      refine z_load_n X (x := c) (show cdA 294 26 = some (.iload_n 1, 1, 0, 0, 0) from rfl) (List.Mem.tail _ (List.Mem.head _)) ?_
      refine z_sipush X (show cdA 294 27 = some (.sipush 128, 3, 0, 0, 128) from rfl) ?_
      refine z_icmp_ge X (t := 56) (show cdA 294 30 = some (.if_icmp .ge 26, 3, 3, 0, 0) from rfl) (by decide) ⟨by first | exact oq_fa4e5087 hi.1.1 | omega, by first | exact oq_4ee82282 hi.1.2 | omega⟩ (by decide) (fun g1003 => ?_) (fun g1003 => ?_)
      ·
        refine WS_lv (lv := [(0, .ref (A 179)), (1, .int (Int32.ofInt c))]) (List.forall_mem_cons.mpr ⟨(List.Mem.head _), (List.forall_mem_cons.mpr ⟨(List.Mem.tail _ (List.Mem.head _)), (fun q h => absurd h List.not_mem_nil)⟩)⟩) ?_
        exact kx _ c I F hq (by first | exact ⟨oq_42fe298a hi.1.2 g1003, hi.2.1.1, hi.2.2.1, hi.2.2.2⟩ | omega)
      ·
        refine z_aload_n X (x := A 179) (show cdA 294 33 = some (.aload_n 0, 1, 0, 0, 0) from rfl) (List.Mem.head _) ?_
        refine s_getR X 179 (show cdA 294 34 = some (.getfield 70, 3, 12, 35, 0) from rfl) (by decide) rfl rfl ?_
        refine z_load_n X (x := c) (show cdA 294 37 = some (.iload_n 1, 1, 0, 0, 0) from rfl) (List.Mem.tail _ (List.Mem.head _)) ?_
        refine z_aload_n X (x := A 179) (show cdA 294 38 = some (.aload_n 0, 1, 0, 0, 0) from rfl) (List.Mem.head _) ?_
        refine s_getR X 179 (show cdA 294 39 = some (.getfield 113, 3, 12, 58, 0) from rfl) (by decide) rfl rfl ?_
        refine z_aload_n X (x := A 179) (show cdA 294 42 = some (.aload_n 0, 1, 0, 0, 0) from rfl) (List.Mem.head _) ?_
        refine z_getI X 179 (show cdA 294 43 = some (.getfield 468, 3, 12, 47, 0) from rfl) (by decide) rfl rfl ?_
        have b1004 : (0 : Int) ≤ iI t 98 ∧ iI t 98 ≤ 4 := I.1 98
        refine z_aald X rw_269 (show cdA 294 46 = some (.aaload, 1, 0, 0, 0) from rfl) (by first | exact b1004.1 | omega) (show (iI t 98) < 4 by first | exact oq_69e514af hi.2.2.1 hi.2.1.2 | omega) (by decide) ?_
        refine z_load_n X (x := c) (show cdA 294 47 = some (.iload_n 1, 1, 0, 0, 0) from rfl) (List.Mem.tail _ (List.Mem.head _)) ?_
        refine z_ald2 X rw_269 (show cdA 294 48 = some (.iaload, 1, 0, 0, 0) from rfl) (show ((iI t 98) : Int).toNat < 4 by first | exact oq_33cf1240 hi.2.2.1 hi.2.1.2 | omega) (by first | exact hi.1.1 | omega) (show c < 128 by first | exact g1003 | omega) (by decide) ?_
        have b1005 : ((-1) : Int) ≤ (iC t (241 + ((iI t 98) : Int).toNat) (c : Int).toNat) ∧ (iC t (241 + ((iI t 98) : Int).toNat) (c : Int).toNat) ≤ 7 := rw_bd rw_269 I (show ((iI t 98) : Int).toNat < 4 by first | exact oq_33cf1240 hi.2.2.1 hi.2.1.2 | omega) (show (c : Int).toNat < 128 by first | exact oq_afb89947 g1003 | omega)
        have hvb : iC t (241 + (iI t 98 : Int).toNat) (c : Int).toNat = (fun j => iC s (241 + ((iI s 98) - 1).toNat) j) (c : Int).toNat := by show iC t _ _ = iC s (241 + ((iI s 98) - 1).toNat) (c : Int).toNat; rw [show iI t 98 = (iI s 98) - 1 by omega]; exact fm_c F ((show ∀ i, i < 4 → 241 + i ∉ _ by decide) _ (by omega))
        refine z_ast X 256 (show cdA 294 49 = some (.iastore, 1, 0, 0, 0) from rfl) (by decide) rfl (by first | exact hi.1.1 | omega) (show c < 128 by first | exact g1003 | omega) (by decide) ?_
        obtain ⟨s1006, hs1006⟩ : ∃ x0, x0 = uC t 228 (c).toNat (Int32.ofInt (iC t (241 + ((iI t 98) : Int).toNat) (c : Int).toNat)) := ⟨_, rfl⟩
        rw [← hs1006]
        have Is1006 : Bd s1006 := by rw [hs1006]; exact bd_C I (show ((-1) : Int) ≤ (iC t (241 + ((iI t 98) : Int).toNat) (c : Int).toNat) ∧ (iC t (241 + ((iI t 98) : Int).toNat) (c : Int).toNat) ≤ 7 by first | exact ⟨b1005.1, b1005.2⟩ | omega) (rng_to _)
        have Fs1006 := fm_C (i := (c).toNat) (x := Int32.ofInt (iC t (241 + ((iI t 98) : Int).toNat) (c : Int).toNat)) F (show 228 ∈ _ by decide)
        rw [← hs1006] at Fs1006
        have ws1006_73 : iI s1006 73 = iI t 73 := by rw [hs1006]; rfl
        have ws1006_98 : iI s1006 98 = iI t 98 := by rw [hs1006]; rfl
        have aws1006_228 : UPD 228 (c) (iC t (241 + ((iI t 98) : Int).toNat) (c : Int).toNat) t s1006 := by rw [hs1006]; exact upd_put (sam_rf (a := 228) (s := t)) (rng_to _)
        refine z_inc X (x := c) (lv' := [(1, .int (Int32.ofInt (c + 1))), (0, .ref (A 179))]) (show cdA 294 50 = some (.iinc 1 1, 3, 0, 0, 0) from rfl) (by decide) (List.Mem.tail _ (List.Mem.head _)) (fun _ h => h) ?_
        refine z_goto X (t := 26) (show cdA 294 53 = some (.goto (-27), 3, 0, 0, 0) from rfl) (by decide) ?_
        refine WS_lv (lv := [(0, .ref (A 179)), (1, .int (Int32.ofInt (c + 1)))]) (List.forall_mem_cons.mpr ⟨(List.Mem.tail _ (List.Mem.head _)), (List.forall_mem_cons.mpr ⟨(List.Mem.head _), (fun q h => absurd h List.not_mem_nil)⟩)⟩) ?_
        exact ih _ (c + 1) Is1006 Fs1006 (bkq_up hq (by omega) hvb (upm_upd aws1006_228)) (by first | exact ⟨And.intro (oq_54f49eb5 hi.1.1) (oq_d2afb425 g1003), And.intro (hi.2.1.1) (hi.2.1.2), oq_a42238f2 ws1006_98 hi.2.2.1, oq_333640b7 ws1006_73 hi.2.2.2 b1001.1⟩ | omega) (by first | exact qk_me hm (by decide) (oq_c268b7bd g1003) | omega) kx
  refine z_aload_n X (x := A 179) (show cdA 294 0 = some (.aload_n 0, 1, 0, 0, 0) from rfl) (List.Mem.head _) ?_
  refine z_const X (show cdA 294 1 = some (.iconst 0, 1, 0, 0, 0) from rfl) ?_
  refine s_putI X 179 (show cdA 294 2 = some (.putfield 172, 3, 12, 0, 0) from rfl) (by decide) rfl rfl (by decide) rfl rfl rfl ?_
  obtain ⟨s3, hs3⟩ : ∃ x0, x0 = uI s 73 (Int32.ofInt 0) := ⟨_, rfl⟩
  rw [← hs3]
  have Is3 : Bd s3 := by rw [hs3]; exact bd_I I (show (0 : Int) ≤ 0 ∧ 0 ≤ 3 by first | exact ⟨by decide, by decide⟩ | omega) (by decide)
  have Fs3 := fm_I (x := Int32.ofInt 0) F (show 73 ∈ _ by decide)
  rw [← hs3] at Fs3
  have vs3 : iI s3 73 = 0 := by rw [hs3]; exact iI_u (by decide)
  have ws3_98 : iI s3 98 = iI s 98 := by rw [hs3]; rfl
  have aws3_228 : SAM 228 s s3 := by rw [hs3]; exact aw0_228
  refine z_aload_n X (x := A 179) (show cdA 294 5 = some (.aload_n 0, 1, 0, 0, 0) from rfl) (List.Mem.head _) ?_
  refine z_getI X 179 (show cdA 294 6 = some (.getfield 468, 3, 12, 47, 0) from rfl) (by decide) rfl rfl ?_
  have b4 : (0 : Int) ≤ iI s3 98 ∧ iI s3 98 ≤ 4 := Is3.1 98
  refine z_if_ne X (t := 14) (show cdA 294 9 = some (.ifCond .ne 5, 3, 1, 0, 0) from rfl) (by decide) (rng_to _) (fun g5 => ?_) (fun g5 => ?_)
  ·
    refine z_aload_n X (x := A 179) (show cdA 294 14 = some (.aload_n 0, 1, 0, 0, 0) from rfl) (List.Mem.head _) ?_
    refine w_dup X.1 (ax_d X (show cdA 294 15 = some (.dup, 1, 0, 0, 0) from rfl)) rfl ?_
    refine z_getI X 179 (show cdA 294 16 = some (.getfield 468, 3, 12, 47, 0) from rfl) (by decide) rfl rfl ?_
    have b6 : (0 : Int) ≤ iI s3 98 ∧ iI s3 98 ≤ 4 := Is3.1 98
    refine z_const X (show cdA 294 19 = some (.iconst 1, 1, 0, 0, 0) from rfl) ?_
    refine z_sub X (show cdA 294 20 = some (.isub, 1, 0, 0, 0) from rfl) ?_
    refine s_putI X 179 (show cdA 294 21 = some (.putfield 468, 3, 12, 47, 0) from rfl) (by decide) rfl rfl (by decide) rfl rfl rfl ?_
    obtain ⟨s7, hs7⟩ : ∃ x0, x0 = uI s3 98 (Int32.ofInt ((iI s3 98) - 1)) := ⟨_, rfl⟩
    rw [← hs7]
    have Is7 : Bd s7 := by rw [hs7]; exact bd_I Is3 (show (0 : Int) ≤ ((iI s3 98) - 1) ∧ ((iI s3 98) - 1) ≤ 4 by first | exact ⟨oq_3ec5d522 b6.1 g5, oq_f3f8f749 b6.2⟩ | omega) ⟨by first | exact oq_c1e961c7 b6.1 | omega, by first | exact oq_dc10bb6e b6.2 | omega⟩
    have Fs7 := fm_I (x := Int32.ofInt ((iI s3 98) - 1)) Fs3 (show 98 ∈ _ by decide)
    rw [← hs7] at Fs7
    have vs7 : iI s7 98 = ((iI s3 98) - 1) := by rw [hs7]; exact iI_u ⟨by first | exact oq_c1e961c7 b6.1 | omega, by first | exact oq_dc10bb6e b6.2 | omega⟩
    have ws7_73 : iI s7 73 = iI s3 73 := by rw [hs7]; rfl
    have aws7_228 : SAM 228 s s7 := by rw [hs7]; exact aws3_228
    refine z_const X (show cdA 294 24 = some (.iconst 0, 1, 0, 0, 0) from rfl) ?_
    refine z_store_n X (lv' := [(1, .int (Int32.ofInt 0)), (0, .ref (A 179))]) (show cdA 294 25 = some (.istore_n 1, 1, 0, 0, 0) from rfl) (by decide) (fun _ h => h) ?_
    refine WS_lv (lv := [(0, .ref (A 179)), (1, .int (Int32.ofInt 0))]) (List.forall_mem_cons.mpr ⟨(List.Mem.tail _ (List.Mem.head _)), (List.forall_mem_cons.mpr ⟨(List.Mem.head _), (fun q h => absurd h List.not_mem_nil)⟩)⟩) ?_
    refine L26 ((128 - 0 : Int).toNat + 1) s7 0 Is7 Fs7 (bkq_s bkq_0 rfl (show pfM s = pfM s7 from (funext aws7_228).symm)) (by first | exact ⟨And.intro (by decide) (by decide), oq_4d166e3f b6.1 g5 ws3_98 b2.2, oq_fb5f44d5 vs7 ws3_98, oq_e5e5d3d6 ws7_73 vs3⟩ | omega) (Nat.lt_succ_self _) ?_
    intro s8 x9 Is8 Fs8 Qs8 hs8
    have b10 : (0 : Int) ≤ iI s8 73 ∧ iI s8 73 ≤ 3 := Is8.1 73
    have b11 : (0 : Int) ≤ iI s8 98 ∧ iI s8 98 ≤ 4 := Is8.1 98
    refine z_aload_n X (x := A 179) (show cdA 294 56 = some (.aload_n 0, 1, 0, 0, 0) from rfl) (List.Mem.head _) ?_
    refine z_getI X 179 (show cdA 294 57 = some (.getfield 468, 3, 12, 47, 0) from rfl) (by decide) rfl rfl ?_
    have b12 : (0 : Int) ≤ iI s8 98 ∧ iI s8 98 ≤ 4 := Is8.1 98
    exact w_iret X.1 q hRt rfl (ax_d X (show cdA 294 60 = some (.ireturn, 1, 0, 0, 0) from rfl)) (Nat.zero_le _) (Nat.zero_le _) ⟨_, rfl, Is8, Fs8, (iI s8 98), rfl, (rng_to _), Or.inl ⟨by first | exact hs8.2.1 | omega, by first | exact hs8.2.2.1 | omega, by omega, by first | exact hs8.2.2.2 | omega, by have z := Qs8; rw [show x9 = 128 by omega] at z; exact z⟩⟩
  ·
    refine z_const X (show cdA 294 12 = some (.iconst (-1), 1, 0, 0, 0) from rfl) ?_
    exact w_iret X.1 q hRt rfl (ax_d X (show cdA 294 13 = some (.ireturn, 1, 0, 0, 0) from rfl)) (Nat.zero_le _) (Nat.zero_le _) ⟨_, rfl, Is3, Fs3, (-1), rfl, (by decide), Or.inr ⟨by first | exact oq_fbab4971 ws3_98 g5 b2.1 | omega, by first | exact g5 | omega, by decide, by first | exact vs3 | omega, aws3_228⟩⟩
end M87k6
