/-! The greatest count near a quarter -/
/-- the greatest of f's values from l on and below h, as far as there are such (0 to 23), and 0 -/
def MXG (f : Int → Int) (l h g : Int) : Prop := 0 ≤ g ∧ (∀ k : Int, 0 ≤ k → k ≤ 23 → l ≤ k → k < h → f k ≤ g) ∧ (g = 0 ∨ ∃ k : Int, 0 ≤ k ∧ k ≤ 23 ∧ l ≤ k ∧ k < h ∧ f k = g)
theorem mx_0 {f : Int → Int} {l h : Int} (e : h ≤ l ∨ h ≤ 0) : MXG f l h 0 := ⟨Int.le_refl _, fun k h0 h1 h2 h3 => by omega, Or.inl rfl⟩
theorem mx_up {f : Int → Int} {l c g v e : Int} (h : MXG f l c g) (hv : v = f c) (h0 : 0 ≤ c) (h1 : c ≤ 23) (h2 : l ≤ c) (h3 : g ≤ e) (h4 : v ≤ e) (h5 : e = g ∨ e = v) : MXG f l (c + 1) e := by
  refine ⟨Int.le_trans h.1 h3, fun k k0 k1 k2 k3 => ?_, ?_⟩
  · by_cases q : k = c
    · rw [q, ← hv]; exact h4
    · exact Int.le_trans (h.2.1 k k0 k1 k2 (by omega)) h3
  · rcases h5 with q | q
    · rcases h.2.2 with z | ⟨k, k0, k1, k2, k3, k4⟩
      · exact Or.inl (by omega)
      · exact Or.inr ⟨k, k0, k1, k2, by omega, by rw [k4, q]⟩
    · exact Or.inr ⟨c, h0, h1, h2, by omega, by rw [← hv, q]⟩
theorem mx_to {f : Int → Int} {l c d g : Int} (h : MXG f l c g) (hd : ∀ k : Int, 0 ≤ k → k ≤ 23 → l ≤ k → (k < c ↔ k < d)) : MXG f l d g :=
  ⟨h.1, fun k k0 k1 k2 k3 => h.2.1 k k0 k1 k2 ((hd k k0 k1 k2).mpr k3), h.2.2.elim Or.inl (fun ⟨k, k0, k1, k2, k3, k4⟩ => Or.inr ⟨k, k0, k1, k2, (hd k k0 k1 k2).mp k3, k4⟩)⟩
theorem mx_f {f f' : Int → Int} {l h g : Int} (m : MXG f l h g) (hf : ∀ k : Int, 0 ≤ k → k ≤ 23 → f k = f' k) : MXG f' l h g :=
  ⟨m.1, fun k k0 k1 k2 k3 => by rw [← hf k k0 k1]; exact m.2.1 k k0 k1 k2 k3, m.2.2.elim Or.inl (fun ⟨k, k0, k1, k2, k3, k4⟩ => Or.inr ⟨k, k0, k1, k2, k3, by rw [← hf k k0 k1]; exact k4⟩)⟩
theorem mx_le {f : Int → Int} {l h g g' : Int} (m : MXG f l h g) (n : MXG f l h g') : g ≤ g' := by
  rcases m.2.2 with z | ⟨k, k0, k1, k2, k3, k4⟩
  · rw [z]; exact n.1
  · rw [← k4]; exact n.2.1 k k0 k1 k2 k3
theorem mx_un {f f' : Int → Int} {l h g g' : Int} (m : MXG f l h g) (n : MXG f' l h g') (hf : ∀ k : Int, 0 ≤ k → k ≤ 23 → f k = f' k) : g = g' :=
  Int.le_antisymm (mx_le (mx_f m hf) n) (mx_le n (mx_f m hf))
/-- f's values of row x from y on and below z are w in g, all others as they were -/
def FLU (f g : Int → Int → Int) (x y z w : Int) : Prop := ∀ a k : Int, 0 ≤ a → a ≤ 11 → 0 ≤ k → k ≤ 23 → g a k = if a = x ∧ y ≤ k ∧ k < z then w else f a k
theorem flu_0 {f : Int → Int → Int} {x y w : Int} : FLU f f x y y w := fun a k _ _ _ _ => by rw [if_neg (by omega)]
theorem flu_up {f g h : Int → Int → Int} {x y c w : Int} (r : FLU f g x y c w) (hc : y ≤ c) (hu : ∀ a k : Int, 0 ≤ a → a ≤ 11 → 0 ≤ k → k ≤ 23 → h a k = if a = x ∧ k = c then w else g a k) : FLU f h x y (c + 1) w := fun a k a0 a1 k0 k1 => by
  rw [hu a k a0 a1 k0 k1]
  by_cases q : a = x ∧ k = c
  · rw [if_pos q, if_pos (by omega)]
  · rw [if_neg q, r a k a0 a1 k0 k1]
    by_cases q2 : a = x ∧ y ≤ k ∧ k < c
    · rw [if_pos q2, if_pos (by omega)]
    · rw [if_neg q2, if_neg (by omega)]
theorem flu_eq {f g f' g' : Int → Int → Int} {x y z w x' y' z' w' : Int} (r : FLU f g x y z w) (r' : FLU f' g' x' y' z' w') (ex : x = x') (ey : y = y') (ez : z = z') (ew : w = w') (h : ∀ a k : Int, 0 ≤ a → a ≤ 11 → 0 ≤ k → k ≤ 23 → f a k = f' a k) : ∀ a k : Int, 0 ≤ a → a ≤ 11 → 0 ≤ k → k ≤ 23 → g a k = g' a k := fun a k a0 a1 k0 k1 => by
  rw [r a k a0 a1 k0 k1, r' a k a0 a1 k0 k1, ex, ey, ez, ew, h a k a0 a1 k0 k1]
/-- the class's counts, the model's -/
def CNR (s : PS) (x k : Int) : Int := iC s 8 (x * 24 + k).toNat
def CMR (s : PS) (x k : Int) : Int := iC s (190 + x.toNat) k.toNat
theorem cnr_sam {s t : PS} (h : SAM 8 s t) : CNR t = CNR s := funext fun _ => funext fun _ => h _
theorem cnr_upd {s t : PS} {x c w : Int} (h : UPD 8 (x * 24 + c) w s t) (x0 : 0 ≤ x) (x1 : x ≤ 11) (c0 : 0 ≤ c) (c1 : c ≤ 23) : ∀ a k : Int, 0 ≤ a → a ≤ 11 → 0 ≤ k → k ≤ 23 → CNR t a k = if a = x ∧ k = c then w else CNR s a k := fun a k a0 a1 k0 k1 => by
  by_cases q : a = x ∧ k = c
  · rw [if_pos q, q.1, q.2]; exact h.1
  · rw [if_neg q]; exact h.2 _ (by omega)
theorem cmr_put {s : PS} {x c w : Int} (hw : rng w) (x0 : 0 ≤ x) (x1 : x ≤ 11) (c0 : 0 ≤ c) (c1 : c ≤ 23) : ∀ a k : Int, 0 ≤ a → a ≤ 11 → 0 ≤ k → k ≤ 23 → CMR (uC s (190 + x.toNat) c.toNat (Int32.ofInt w)) a k = if a = x ∧ k = c then w else CMR s a k := fun a k a0 a1 k0 k1 => by
  by_cases q : a = x
  · by_cases q2 : k = c
    · rw [if_pos ⟨q, q2⟩, q, q2]; exact iC_u hw
    · rw [if_neg (fun z => q2 z.2), q]; exact iC_n (by omega)
  · rw [if_neg (fun z => q z.1)]; exact iC_a (by omega)
/-- the sum of f's first values -/
def sqn (f : Int → Int) : Nat → Int
  | 0 => 0
  | n + 1 => sqn f n + f n
theorem sqn_f {f g : Int → Int} : ∀ {n : Nat}, (∀ k : Int, 0 ≤ k → k < n → f k = g k) → sqn f n = sqn g n
  | 0, _ => rfl
  | n + 1, h => by
    show sqn f n + f n = sqn g n + g n
    rw [sqn_f (n := n) (fun k k0 k1 => h k k0 (by omega)), h n (by omega) (by omega)]
theorem sqn_up {f : Int → Int} {c v : Int} (hc : 0 ≤ c) (hv : v = f c) : sqn f c.toNat + v = sqn f (c + 1).toNat := by
  have e : (c + 1).toNat = c.toNat + 1 := by omega
  rw [e]
  show _ = sqn f c.toNat + f c.toNat
  rw [hv, show ((c.toNat : Nat) : Int) = c by omega]
theorem sqn_bd {f : Int → Int} {m : Int} : ∀ {n : Nat}, (∀ k : Int, 0 ≤ k → k < n → 0 ≤ f k ∧ f k ≤ m) → 0 ≤ sqn f n ∧ sqn f n ≤ m * n
  | 0, _ => by show (0 : Int) ≤ 0 ∧ (0 : Int) ≤ m * 0; omega
  | n + 1, h => by
    have h1 := sqn_bd (m := m) (n := n) (fun k k0 k1 => h k k0 (by omega))
    have h2 := h n (by omega) (by omega)
    have e : m * ((n + 1 : Nat) : Int) = m * (n : Int) + m := by rw [Int.natCast_add, Int.mul_add]; simp
    show 0 ≤ sqn f n + f n ∧ sqn f n + f n ≤ m * ((n + 1 : Nat) : Int)
    rw [e]
    omega
/-- the total of stream x, up to quarter c; those of the others are as they were -/
def RTS (x c : Int) (s t : PS) : Prop := iC t 12 x.toNat = sqn (CNR s x) c.toNat ∧ ∀ y : Int, 0 ≤ y → y ≤ 11 → y ≠ x → iC t 12 y.toNat = iC s 12 y.toNat
theorem rts_0 {x : Int} {s t : PS} (h : UPD 12 x 0 s t) (x0 : 0 ≤ x) : RTS x 0 s t := ⟨h.1, fun y y0 _ hy => h.2 _ (by omega)⟩
theorem rts_up {x c e v : Int} {s t u : PS} (r : RTS x c s t) (h : UPD 12 x e t u) (he : e = iC t 12 x.toNat + v) (hv : v = CNR s x c) (x0 : 0 ≤ x) (c0 : 0 ≤ c) : RTS x (c + 1) s u :=
  ⟨by rw [h.1, he, r.1]; exact sqn_up c0 hv, fun y y0 y1 hy => by rw [h.2 _ (by omega)]; exact r.2 y y0 y1 hy⟩
theorem rts_sam {x c : Int} {s t u : PS} (r : RTS x c s t) (h : SAM 12 t u) : RTS x c s u := ⟨by rw [h]; exact r.1, fun y y0 y1 hy => by rw [h]; exact r.2 y y0 y1 hy⟩
/-- the most of stream x is right in all quarters below c, those of the others are as they were -/
def RTQ (x c : Int) (s t : PS) : Prop := (∀ q : Int, 0 ≤ q → q < c → MXG (CNR s x) (q - iC s 10 x.toNat) (q + iC s 9 x.toNat + 1) (iC t 11 (q * 12 + x).toNat)) ∧ ∀ y q : Int, 0 ≤ y → y ≤ 11 → 0 ≤ q → q ≤ 23 → y ≠ x → iC t 11 (q * 12 + y).toNat = iC s 11 (q * 12 + y).toNat
theorem rtq_0 {x : Int} {s t : PS} (h : SAM 11 s t) : RTQ x 0 s t := ⟨fun q h0 h1 => by omega, fun y q _ _ _ _ _ => h _⟩
theorem rtq_up {x c e : Int} {s t u : PS} (r : RTQ x c s t) (h : UPD 11 (c * 12 + x) e t u) (m : MXG (CNR s x) (c - iC s 10 x.toNat) (c + iC s 9 x.toNat + 1) e) (x0 : 0 ≤ x) (x1 : x ≤ 11) (c0 : 0 ≤ c) (c1 : c ≤ 23) : RTQ x (c + 1) s u := by
  refine ⟨fun q h0 h1 => ?_, fun y q y0 y1 q0 q1 hy => ?_⟩
  · by_cases z : q = c
    · rw [z, h.1]; exact m
    · rw [h.2 _ (by omega)]; exact r.1 q h0 (by omega)
  · rw [h.2 _ (by omega)]; exact r.2 y q y0 y1 q0 q1 hy
theorem rtq_sam {x c : Int} {s t u : PS} (r : RTQ x c s t) (h : SAM 11 t u) : RTQ x c s u := ⟨fun q h0 h1 => by rw [h]; exact r.1 q h0 h1, fun y q y0 y1 q0 q1 hy => by rw [h]; exact r.2 y q y0 y1 q0 q1 hy⟩
theorem mx_st {x y z e : Int} {s t : PS} (m : MXG (CNR t x) (y - iC t 10 x.toNat) (y + iC t 9 x.toNat + 1) e) (h1 : SAM 8 s t) (h2 : SAM 10 s t) (h3 : SAM 9 s t) (ex : x = z) : MXG (CNR s z) (y - iC s 10 z.toNat) (y + iC s 9 z.toNat + 1) e := by
  subst ex
  rw [cnr_sam h1, h2, h3] at m
  exact m
/-- the mosts are right -/
def MOI (s : PS) : Prop := (∀ x q : Int, 0 ≤ x → x ≤ 11 → 0 ≤ q → q ≤ 23 → MXG (CNR s x) (q - iC s 10 x.toNat) (q + iC s 9 x.toNat + 1) (iC s 11 (q * 12 + x).toNat)) ∧ ∀ x : Int, 0 ≤ x → x ≤ 11 → iC s 12 x.toNat = sqn (CNR s x) 24
/-- counts, spans and mosts are as they were -/
def SA4 (s t : PS) : Prop := SAM 8 s t ∧ SAM 10 s t ∧ SAM 9 s t ∧ SAM 11 s t ∧ SAM 12 s t
theorem moi_sam {s t : PS} (h : MOI s) (r : SA4 s t) : MOI t := ⟨fun x q x0 x1 q0 q1 => by
  rw [cnr_sam r.1, r.2.1, r.2.2.1, r.2.2.2.1]; exact h.1 x q x0 x1 q0 q1, fun x x0 x1 => by rw [cnr_sam r.1, r.2.2.2.2]; exact h.2 x x0 x1⟩
theorem moi_fl {s u t : PS} {x y z w : Int} (h : MOI s) (hf : FLU (CNR s) (CNR u) x y z w) (hm : SAM 11 s u) (ht : SAM 12 s u) (hl : SAM 10 s u) (he : SAM 9 s u) (hr : RTQ x 24 u t) (hs : RTS x 24 u t) (h1 : SAM 8 u t) (h2 : SAM 10 u t) (h3 : SAM 9 u t) : MOI t := by
  refine ⟨fun a q a0 a1 q0 q1 => ?_, fun a a0 a1 => ?_⟩
  · rw [cnr_sam h1, h2, h3]
    by_cases e : a = x
    · rw [e]; exact hr.1 q q0 (by omega)
    · rw [hr.2 a q a0 a1 q0 q1 e, hm, hl, he]
      exact mx_f (h.1 a q a0 a1 q0 q1) (fun k k0 k1 => by rw [hf a k a0 a1 k0 k1, if_neg (fun z => e z.1)])
  · rw [cnr_sam h1]
    by_cases e : a = x
    · rw [e]; exact hs.1
    · rw [hs.2 a a0 a1 e, ht, h.2 a a0 a1]
      exact sqn_f (fun k k0 k1 => by rw [hf a k a0 a1 k0 (by omega), if_neg (fun z => e z.1)])
theorem moi_sp {s u t : PS} {x y z : Int} (h : MOI s) (hc : SAM 8 s u) (hm : SAM 11 s u) (ht : SAM 12 s u) (he : UPD 9 x y s u) (hl : UPD 10 x z s u) (x0 : 0 ≤ x) (hr : RTQ x 24 u t) (hs : RTS x 24 u t) (h1 : SAM 8 u t) (h2 : SAM 10 u t) (h3 : SAM 9 u t) : MOI t := by
  refine ⟨fun a q a0 a1 q0 q1 => ?_, fun a a0 a1 => ?_⟩
  · rw [cnr_sam h1, h2, h3]
    by_cases e : a = x
    · rw [e]; exact hr.1 q q0 (by omega)
    · rw [hr.2 a q a0 a1 q0 q1 e, hm, cnr_sam hc, he.2 _ (by omega), hl.2 _ (by omega)]
      exact h.1 a q a0 a1 q0 q1
  · rw [cnr_sam h1]
    by_cases e : a = x
    · rw [e]; exact hs.1
    · rw [hs.2 a a0 a1 e, ht, cnr_sam hc]; exact h.2 a a0 a1
/-- all that class and model have of counts and spans -/
def MQJ (s : PS) : Prop := MOI s ∧ (∀ a k : Int, 0 ≤ a → a ≤ 11 → 0 ≤ k → k ≤ 23 → CNR s a k = CMR s a k) ∧ AEQ 9 163 12 s ∧ AEQ 10 164 12 s
/-- the model's counts are as they were -/
def SMR (s t : PS) : Prop := ∀ a k : Int, 0 ≤ a → a ≤ 11 → CMR t a k = CMR s a k
theorem smr_fm {L M : List Nat} {s t : PS} (F : Fm L M s t) (h : ∀ j, j < 12 → 190 + j ∉ M) : SMR s t := fun _ _ _ _ => fm_c F (h _ (by omega))
theorem upd_st {a : Nat} {i x : Int} {s t u : PS} (h : SAM a s t) (g : UPD a i x t u) : UPD a i x s u := ⟨g.1, fun j hj => (g.2 j hj).trans (h j)⟩
theorem smr_rf {s : PS} : SMR s s := fun _ _ _ _ => rfl
theorem smr_ts {s t u : PS} (h : SMR s t) (g : SMR t u) : SMR s u := fun a k a0 a1 => (g a k a0 a1).trans (h a k a0 a1)
theorem mqj_sam {s t : PS} (h : MQJ s) (r : SA4 s t) (m : SMR s t) (e : SAM 163 s t) (l : SAM 164 s t) : MQJ t :=
  ⟨moi_sam h.1 r, fun a k a0 a1 k0 k1 => by rw [cnr_sam r.1, m a k a0 a1]; exact h.2.1 a k a0 a1 k0 k1, aeq_sam h.2.2.1 r.2.2.1 e, aeq_sam h.2.2.2 r.2.1 l⟩
theorem MQJ_fm {L M : List Nat} {s t : PS} (F : Fm L M s t) (h : (8 ∉ M ∧ 10 ∉ M ∧ 9 ∉ M ∧ 11 ∉ M ∧ 12 ∉ M) ∧ (∀ j, j < 12 → 190 + j ∉ M) ∧ 163 ∉ M ∧ 164 ∉ M) (r : MQJ s) : MQJ t :=
  mqj_sam r ⟨sam_fm F h.1.1, sam_fm F h.1.2.1, sam_fm F h.1.2.2.1, sam_fm F h.1.2.2.2.1, sam_fm F h.1.2.2.2.2⟩ (smr_fm F h.2.1) (sam_fm F h.2.2.1) (sam_fm F h.2.2.2)
theorem mqj_flow {s t u : PS} {x y z w x' y' z' w' : Int} (h : MQJ s) (hm : MOI t) (hf : FLU (CNR s) (CNR t) x y z w) (hl : SAM 10 s t) (he : SAM 9 s t) (c : SMR s t) (el : SAM 164 s t) (ee : SAM 163 s t)
    (g : FLU (CMR t) (CMR u) x' y' z' w') (r : SA4 t u) (fl : SAM 164 t u) (fe : SAM 163 t u) (ex : x = x') (ey : y = y') (ez : z = z') (ew : w = w') : MQJ u := by
  refine ⟨moi_sam hm r, fun a k a0 a1 k0 k1 => ?_, aeq_sam h.2.2.1 (sam_ts he r.2.2.1) (sam_ts ee fe), aeq_sam h.2.2.2 (sam_ts hl r.2.1) (sam_ts el fl)⟩
  rw [cnr_sam r.1]
  exact flu_eq hf g ex ey ez ew (fun b j b0 b1 j0 j1 => by rw [c b j b0 b1]; exact h.2.1 b j b0 b1 j0 j1) a k a0 a1 k0 k1
theorem mqj_span {s t u : PS} {x y z : Int} (h : MQJ s) (hm : MOI t) (hc : SAM 8 s t) (he : UPD 9 x y s t) (hl : UPD 10 x z s t) (c : SMR s t) (el : SAM 164 s t) (ee : SAM 163 s t)
    (ge : UPD 163 x y t u) (gl : UPD 164 x z t u) (r : SA4 t u) (c2 : SMR t u) : MQJ u := by
  refine ⟨moi_sam hm r, fun a k a0 a1 k0 k1 => ?_, aeq_upd h.2.2.1 he ee ge r.2.2.1, aeq_upd h.2.2.2 hl el gl r.2.1⟩
  rw [cnr_sam r.1, cnr_sam hc, c2 a k a0 a1, c a k a0 a1]
  exact h.2.1 a k a0 a1 k0 k1
theorem mqj_most {s t : PS} {x y e : Int} (h : MQJ s) (c : SMR s t) (el : SAM 164 s t) (ee : SAM 163 s t) (x0 : 0 ≤ x) (x1 : x ≤ 11) (y0 : 0 ≤ y) (y1 : y ≤ 23) (m : MXG (CMR t x) (y - iC t 164 x.toNat) (y + iC t 163 x.toNat + 1) e) : iC s 11 (y * 12 + x).toNat = e := by
  have a := h.1.1 x y x0 x1 y0 y1
  rw [h.2.2.1 _ (by omega), h.2.2.2 _ (by omega)] at a
  rw [el, ee] at m
  exact mx_un a m (fun k k0 k1 => by rw [c x k x0 x1]; exact h.2.1 x k x0 x1 k0 k1)
theorem sa4_fm {L M : List Nat} {s t : PS} (F : Fm L M s t) (h : 8 ∉ M ∧ 10 ∉ M ∧ 9 ∉ M ∧ 11 ∉ M ∧ 12 ∉ M) : SA4 s t := ⟨sam_fm F h.1, sam_fm F h.2.1, sam_fm F h.2.2.1, sam_fm F h.2.2.2.1, sam_fm F h.2.2.2.2⟩
theorem sa4_ts {s t u : PS} (h : SA4 s t) (g : SA4 t u) : SA4 s u := ⟨sam_ts h.1 g.1, sam_ts h.2.1 g.2.1, sam_ts h.2.2.1 g.2.2.1, sam_ts h.2.2.2.1 g.2.2.2.1, sam_ts h.2.2.2.2 g.2.2.2.2⟩
theorem mqj_0 {s : PS} (h1 : ∀ j, j < 288 → iC s 8 j = 0) (h2 : ∀ j, j < 288 → iC s 11 j = 0) (h6 : ∀ j, j < 12 → iC s 12 j = 0) (h3 : ∀ r j, r < 12 → j < 24 → iC s (190 + r) j = 0) (h4 : AEQ 9 163 12 s) (h5 : AEQ 10 164 12 s) : MQJ s := by
  have hz : ∀ x k : Int, 0 ≤ x → x ≤ 11 → 0 ≤ k → k ≤ 23 → CNR s x k = 0 := fun x k x0 x1 k0 k1 => h1 _ (by omega)
  refine ⟨⟨fun x q x0 x1 q0 q1 => ?_, fun x x0 x1 => ?_⟩, fun a k a0 a1 k0 k1 => ?_, h4, h5⟩
  · rw [h2 _ (by omega)]
    refine ⟨Int.le_refl _, fun k k0 k1 _ _ => ?_, Or.inl rfl⟩
    show iC s 8 (x * 24 + k).toNat ≤ 0
    rw [h1 _ (by omega)]
    exact Int.le_refl _
  · rw [h6 _ (by omega), sqn_f (g := fun _ => 0) (fun k k0 k1 => hz x k x0 x1 k0 (by omega))]
    rfl
  · show iC s 8 (a * 24 + k).toNat = iC s (190 + a.toNat) k.toNat
    rw [h1 _ (by omega), h3 _ _ (by omega) (by omega)]
theorem MOI_fm {L M : List Nat} {s t : PS} (F : Fm L M s t) (h : 8 ∉ M ∧ 10 ∉ M ∧ 9 ∉ M ∧ 11 ∉ M ∧ 12 ∉ M) (r : MOI s) : MOI t := moi_sam r (sa4_fm F h)
theorem mxm_st {x y e : Int} {s t : PS} (m : MXG (CMR t x) (y - iC t 164 x.toNat) (y + iC t 163 x.toNat + 1) e) (h1 : ∀ j, j < 12 → ∀ {i : Nat}, iC t (190 + j) i = iC s (190 + j) i) (h2 : SAM 164 s t) (h3 : SAM 163 s t) (x0 : 0 ≤ x) (x1 : x ≤ 11) : MXG (CMR s x) (y - iC s 164 x.toNat) (y + iC s 163 x.toNat + 1) e := by
  have e1 : CMR t x = CMR s x := funext fun k => h1 _ (by omega)
  rw [e1, h2, h3] at m
  exact m
theorem flu_sm {s t : PS} {x y w : Int} (h : SMR s t) : FLU (CMR s) (CMR t) x y y w := fun a k a0 a1 _ _ => by rw [if_neg (by omega)]; exact h a k a0 a1
section M87d
variable {l : Launch} {s0 : State} {D : va_G} {tys : List (ClassId × FieldType)} {a0 : Array Value} {A : Nat → Nat} {dT : Nat → ClassId} {s : PS}
set_option maxRecDepth 4000 in
theorem c9_mostIn2 (G : GX l s0 D tys a0 dT) (I : Bd s) {x y : Int} (p0 : 0 ≤ x ∧ x ≤ 11) (p1 : 0 ≤ y ∧ y ≤ 23) : CT l s0 D A dT 117 (rmN 117) [.ref (A 3), .int (Int32.ofInt x), .int (Int32.ofInt y)] s (fun o t => Bd t ∧ Fm [] [] s t ∧ ∃ e, o = .inl (some (.int (Int32.ofInt e))) ∧ rng e ∧ (0 ≤ e ∧ e ≤ 50 ∧ MXG (CNR s x) (y - iC s 10 x.toNat) (y + iC s 9 x.toNat + 1) e)) := by
  refine ct_ofX G (by decide) (Nat.le_of_ble_eq_true rfl) (fun k X E ET hRt hXt q => ?_)
  show WS k 0 [(0, .ref (A 3)), (1, .int (Int32.ofInt x)), (2, .int (Int32.ofInt y))] [] _ 0 0
  have F : Fm [] [] s s := fm_rf _ _ s
  have aw0_10 : SAM 10 s s := sam_rf
  have aw0_9 : SAM 9 s s := sam_rf
  have L34 : ∀ (n : Nat) (t : PS) (xv la gr qq : Int), Bd t → Fm [] [] s t → (MXG (CNR s x) (y - iC s 10 x.toNat) qq gr) → (xv = x ∧ (0 ≤ xv ∧ xv ≤ 11) ∧ (-30 ≤ la ∧ la ≤ 23) ∧ (0 ≤ gr ∧ gr ≤ 50) ∧ 0 ≤ qq ∧ qq ≤ 24 ∧ y - iC s 10 x.toNat ≤ qq ∧ la ≤ y + iC s 9 x.toNat ∧ (la = 23 ∨ la = y + iC s 9 x.toNat) ∧ qq ≤ la + 1) → (24 - qq : Int).toNat < n → (∀ (t' : PS) (gr' qq' : Int), Bd t' → Fm [] [] s t' → (MXG (CNR s x) (y - iC s 10 x.toNat) (y + iC s 9 x.toNat + 1) gr') → (0 ≤ gr' ∧ gr' ≤ 50) → WS k 66 [(0, .ref (A 3)), (1, .int (Int32.ofInt xv)), (4, .int (Int32.ofInt la)), (5, .int (Int32.ofInt gr')), (6, .int (Int32.ofInt qq'))] [] (Wd A dT t') 0 0) → WS k 34 [(0, .ref (A 3)), (1, .int (Int32.ofInt xv)), (4, .int (Int32.ofInt la)), (5, .int (Int32.ofInt gr)), (6, .int (Int32.ofInt qq))] [] (Wd A dT t) 0 0 := by
    intro n
    induction n with
    | zero =>
      intro t xv la gr qq I F hq hi hm kx
      exact absurd hm (Nat.not_lt_zero _)
    | succ n ih =>
      intro t xv la gr qq I F hq hi hm kx
      refine z_load X (x := qq) (show cdA 117 34 = some (.iload 6, 2, 0, 0, 0) from rfl) (List.Mem.tail _ (List.Mem.tail _ (List.Mem.tail _ (List.Mem.tail _ (List.Mem.head _))))) ?_
      refine z_load X (x := la) (show cdA 117 36 = some (.iload 4, 2, 0, 0, 0) from rfl) (List.Mem.tail _ (List.Mem.tail _ (List.Mem.head _))) ?_
      refine z_icmp_gt X (t := 66) (show cdA 117 38 = some (.if_icmp .gt 28, 3, 4, 0, 0) from rfl) (by decide) ⟨by first | exact oq_fa4e5087 hi.2.2.2.2.1 | omega, by first | exact oq_5bcd337f hi.2.2.2.2.2.1 | omega⟩ ⟨by first | exact oq_68756d7a hi.2.2.1.1 | omega, by first | exact oq_1a42ef34 hi.2.2.1.2 | omega⟩ (fun g1001 => ?_) (fun g1001 => ?_)
      ·
        refine WS_lv (lv := [(0, .ref (A 3)), (1, .int (Int32.ofInt xv)), (4, .int (Int32.ofInt la)), (5, .int (Int32.ofInt gr)), (6, .int (Int32.ofInt qq))]) (List.forall_mem_cons.mpr ⟨(List.Mem.head _), (List.forall_mem_cons.mpr ⟨(List.Mem.tail _ (List.Mem.head _)), (List.forall_mem_cons.mpr ⟨(List.Mem.tail _ (List.Mem.tail _ (List.Mem.head _))), (List.forall_mem_cons.mpr ⟨(List.Mem.tail _ (List.Mem.tail _ (List.Mem.tail _ (List.Mem.head _)))), (List.forall_mem_cons.mpr ⟨(List.Mem.tail _ (List.Mem.tail _ (List.Mem.tail _ (List.Mem.tail _ (List.Mem.head _))))), (fun q h => absurd h List.not_mem_nil)⟩)⟩)⟩)⟩)⟩) ?_
        exact kx _ gr qq I F (mx_to hq (fun k _ _ _ => by omega)) (by first | exact ⟨hi.2.2.2.1.1, hi.2.2.2.1.2⟩ | omega)
      ·
        refine z_load X (x := gr) (show cdA 117 41 = some (.iload 5, 2, 0, 0, 0) from rfl) (List.Mem.tail _ (List.Mem.tail _ (List.Mem.tail _ (List.Mem.head _)))) ?_
        refine z_aload_n X (x := A 3) (show cdA 117 43 = some (.aload_n 0, 1, 0, 0, 0) from rfl) (List.Mem.head _) ?_
        refine s_getR X 3 (show cdA 117 44 = some (.getfield 34, 3, 9, 9, 0) from rfl) (by decide) rfl rfl ?_
        refine z_load_n X (x := xv) (show cdA 117 47 = some (.iload_n 1, 1, 0, 0, 0) from rfl) (List.Mem.tail _ (List.Mem.head _)) ?_
        refine z_bipush X (show cdA 117 48 = some (.bipush 24, 2, 0, 0, 24) from rfl) ?_
        refine z_mul X (show cdA 117 50 = some (.imul, 1, 0, 0, 0) from rfl) ?_
        refine z_load X (x := qq) (show cdA 117 51 = some (.iload 6, 2, 0, 0, 0) from rfl) (List.Mem.tail _ (List.Mem.tail _ (List.Mem.tail _ (List.Mem.tail _ (List.Mem.head _))))) ?_
        refine z_add X (show cdA 117 53 = some (.iadd, 1, 0, 0, 0) from rfl) ?_
        refine z_ald X 11 (show cdA 117 54 = some (.iaload, 1, 0, 0, 0) from rfl) (by decide) rfl (by first | exact oq_4071a75f hi.2.1.1 hi.2.2.2.2.1 | omega) (show ((xv * 24) + qq) < 288 by first | exact oq_df38adfb hi.2.1.2 g1001 hi.2.2.1.2 | omega) (by decide) ?_
        have b1002 : (0 : Int) ≤ iC t 8 (((xv * 24) + qq)).toNat ∧ iC t 8 (((xv * 24) + qq)).toNat ≤ 50 := I.2 8 _ (show (((xv * 24) + qq)).toNat < 288 by first | exact oq_bba4069f hi.2.1.2 g1001 hi.2.2.1.2 | omega)
        refine z_max X (show cdA 117 55 = some (.invokestatic 149, 3, 0, 7, 0) from rfl) ⟨by first | exact oq_fa4e5087 hi.2.2.2.1.1 | omega, by first | exact oq_cbe526b3 hi.2.2.2.1.2 | omega⟩ (rng_to _) (by rw [E.2.2.2]; decide) (by rw [E.2.2.2]; exact Nat.le_of_ble_eq_true rfl) (Nat.zero_le _) (Nat.zero_le _) (fun e1003 he1003 => ?_)
        refine z_store X (lv' := [(5, .int (Int32.ofInt e1003)), (0, .ref (A 3)), (1, .int (Int32.ofInt xv)), (4, .int (Int32.ofInt la)), (6, .int (Int32.ofInt qq))]) (show cdA 117 58 = some (.istore 5, 2, 0, 0, 0) from rfl) (by decide) (fun _ h => h) ?_
        refine z_inc X (x := qq) (lv' := [(6, .int (Int32.ofInt (qq + 1))), (5, .int (Int32.ofInt e1003)), (0, .ref (A 3)), (1, .int (Int32.ofInt xv)), (4, .int (Int32.ofInt la))]) (show cdA 117 60 = some (.iinc 6 1, 3, 0, 0, 0) from rfl) (by decide) (List.Mem.tail _ (List.Mem.tail _ (List.Mem.tail _ (List.Mem.tail _ (List.Mem.head _))))) (fun _ h => h) ?_
        refine z_goto X (t := 34) (show cdA 117 63 = some (.goto (-29), 3, 0, 0, 0) from rfl) (by decide) ?_
        refine WS_lv (lv := [(0, .ref (A 3)), (1, .int (Int32.ofInt xv)), (4, .int (Int32.ofInt la)), (5, .int (Int32.ofInt e1003)), (6, .int (Int32.ofInt (qq + 1)))]) (List.forall_mem_cons.mpr ⟨(List.Mem.tail _ (List.Mem.tail _ (List.Mem.head _))), (List.forall_mem_cons.mpr ⟨(List.Mem.tail _ (List.Mem.tail _ (List.Mem.tail _ (List.Mem.head _)))), (List.forall_mem_cons.mpr ⟨(List.Mem.tail _ (List.Mem.tail _ (List.Mem.tail _ (List.Mem.tail _ (List.Mem.head _))))), (List.forall_mem_cons.mpr ⟨(List.Mem.tail _ (List.Mem.head _)), (List.forall_mem_cons.mpr ⟨(List.Mem.head _), (fun q h => absurd h List.not_mem_nil)⟩)⟩)⟩)⟩)⟩) ?_
        exact ih _ xv la e1003 (qq + 1) I F (mx_up (v := iC t 8 ((xv * 24) + qq).toNat) hq (by rw [show xv = x by omega]; exact (sam_fm F (by decide) : SAM 8 s t) _) (by omega) (by omega) (by omega) (by omega) (by omega) (by omega)) (by first | exact ⟨hi.1, And.intro (hi.2.1.1) (hi.2.1.2), And.intro (hi.2.2.1.1) (hi.2.2.1.2), oq_a302a59b he1003 b1002.2 hi.2.2.2.1.2 hi.2.2.2.1.1, oq_54f49eb5 hi.2.2.2.2.1, oq_3f5436dc g1001 hi.2.2.1.2, oq_e1c0d1f5 hi.2.2.2.2.2.2.1, hi.2.2.2.2.2.2.2.1, hi.2.2.2.2.2.2.2.2.1, oq_8d48a029 g1001⟩ | omega) (by first | exact qk_me hm (by decide) (oq_416f5e90 g1001 hi.2.2.1.2) | omega) kx
  refine z_const X (show cdA 117 0 = some (.iconst 0, 1, 0, 0, 0) from rfl) ?_
  refine z_load_n X (x := y) (show cdA 117 1 = some (.iload_n 2, 1, 0, 0, 0) from rfl) (List.Mem.tail _ (List.Mem.tail _ (List.Mem.head _))) ?_
  refine z_aload_n X (x := A 3) (show cdA 117 2 = some (.aload_n 0, 1, 0, 0, 0) from rfl) (List.Mem.head _) ?_
  refine s_getR X 3 (show cdA 117 3 = some (.getfield 40, 3, 9, 11, 0) from rfl) (by decide) rfl rfl ?_
  refine z_load_n X (x := x) (show cdA 117 6 = some (.iload_n 1, 1, 0, 0, 0) from rfl) (List.Mem.tail _ (List.Mem.head _)) ?_
  refine z_ald X 13 (show cdA 117 7 = some (.iaload, 1, 0, 0, 0) from rfl) (by decide) rfl (by first | exact p0.1 | omega) (show x < 12 by first | exact oq_0ddfcfee p0.2 | omega) (by decide) ?_
  have b1 : (0 : Int) ≤ iC s 10 (x).toNat ∧ iC s 10 (x).toNat ≤ 2 := I.2 10 _ (show (x).toNat < 12 by first | exact oq_9c5fa447 p0.2 | omega)
  have ar2 : iC s 10 (x).toNat = iC s 10 (x).toNat := aw0_10 _
  refine z_sub X (show cdA 117 8 = some (.isub, 1, 0, 0, 0) from rfl) ?_
  refine z_max X (show cdA 117 9 = some (.invokestatic 149, 3, 0, 7, 0) from rfl) (by decide) ⟨by first | exact oq_daade761 p1.1 b1.2 | omega, by first | exact oq_941e6dcc p1.2 b1.1 | omega⟩ (by rw [E.2.2.2]; decide) (by rw [E.2.2.2]; exact Nat.le_of_ble_eq_true rfl) (Nat.zero_le _) (Nat.zero_le _) (fun e3 he3 => ?_)
  refine z_store_n X (lv' := [(3, .int (Int32.ofInt e3)), (0, .ref (A 3)), (1, .int (Int32.ofInt x)), (2, .int (Int32.ofInt y))]) (show cdA 117 12 = some (.istore_n 3, 1, 0, 0, 0) from rfl) (by decide) (fun _ h => h) ?_
  refine z_bipush X (show cdA 117 13 = some (.bipush 23, 2, 0, 0, 23) from rfl) ?_
  refine z_load_n X (x := y) (show cdA 117 15 = some (.iload_n 2, 1, 0, 0, 0) from rfl) (List.Mem.tail _ (List.Mem.tail _ (List.Mem.tail _ (List.Mem.head _)))) ?_
  refine z_aload_n X (x := A 3) (show cdA 117 16 = some (.aload_n 0, 1, 0, 0, 0) from rfl) (List.Mem.tail _ (List.Mem.head _)) ?_
  refine s_getR X 3 (show cdA 117 17 = some (.getfield 37, 3, 9, 10, 0) from rfl) (by decide) rfl rfl ?_
  refine z_load_n X (x := x) (show cdA 117 20 = some (.iload_n 1, 1, 0, 0, 0) from rfl) (List.Mem.tail _ (List.Mem.tail _ (List.Mem.head _))) ?_
  refine z_ald X 12 (show cdA 117 21 = some (.iaload, 1, 0, 0, 0) from rfl) (by decide) rfl (by first | exact p0.1 | omega) (show x < 12 by first | exact oq_0ddfcfee p0.2 | omega) (by decide) ?_
  have b4 : (0 : Int) ≤ iC s 9 (x).toNat ∧ iC s 9 (x).toNat ≤ 2 := I.2 9 _ (show (x).toNat < 12 by first | exact oq_9c5fa447 p0.2 | omega)
  have ar5 : iC s 9 (x).toNat = iC s 9 (x).toNat := aw0_9 _
  refine z_add X (show cdA 117 22 = some (.iadd, 1, 0, 0, 0) from rfl) ?_
  refine z_min X (show cdA 117 23 = some (.invokestatic 122, 3, 0, 8, 0) from rfl) (by decide) ⟨by first | exact oq_34aac425 p1.1 b4.1 | omega, by first | exact oq_b5a47671 p1.2 b4.2 | omega⟩ (by rw [E.2.2.2]; decide) (by rw [E.2.2.2]; exact Nat.le_of_ble_eq_true rfl) (Nat.zero_le _) (Nat.zero_le _) (fun e6 he6 => ?_)
  refine z_store X (lv' := [(4, .int (Int32.ofInt e6)), (3, .int (Int32.ofInt e3)), (0, .ref (A 3)), (1, .int (Int32.ofInt x)), (2, .int (Int32.ofInt y))]) (show cdA 117 26 = some (.istore 4, 2, 0, 0, 0) from rfl) (by decide) (fun _ h => h) ?_
  refine z_const X (show cdA 117 28 = some (.iconst 0, 1, 0, 0, 0) from rfl) ?_
  refine z_store X (lv' := [(5, .int (Int32.ofInt 0)), (4, .int (Int32.ofInt e6)), (3, .int (Int32.ofInt e3)), (0, .ref (A 3)), (1, .int (Int32.ofInt x)), (2, .int (Int32.ofInt y))]) (show cdA 117 29 = some (.istore 5, 2, 0, 0, 0) from rfl) (by decide) (fun _ h => h) ?_
  refine z_load_n X (x := e3) (show cdA 117 31 = some (.iload_n 3, 1, 0, 0, 0) from rfl) (List.Mem.tail _ (List.Mem.tail _ (List.Mem.head _))) ?_
  refine z_store X (lv' := [(6, .int (Int32.ofInt e3)), (5, .int (Int32.ofInt 0)), (4, .int (Int32.ofInt e6)), (3, .int (Int32.ofInt e3)), (0, .ref (A 3)), (1, .int (Int32.ofInt x)), (2, .int (Int32.ofInt y))]) (show cdA 117 32 = some (.istore 6, 2, 0, 0, 0) from rfl) (by decide) (fun _ h => h) ?_
  refine WS_lv (lv := [(0, .ref (A 3)), (1, .int (Int32.ofInt x)), (4, .int (Int32.ofInt e6)), (5, .int (Int32.ofInt 0)), (6, .int (Int32.ofInt e3))]) (List.forall_mem_cons.mpr ⟨(List.Mem.tail _ (List.Mem.tail _ (List.Mem.tail _ (List.Mem.tail _ (List.Mem.head _))))), (List.forall_mem_cons.mpr ⟨(List.Mem.tail _ (List.Mem.tail _ (List.Mem.tail _ (List.Mem.tail _ (List.Mem.tail _ (List.Mem.head _)))))), (List.forall_mem_cons.mpr ⟨(List.Mem.tail _ (List.Mem.tail _ (List.Mem.head _))), (List.forall_mem_cons.mpr ⟨(List.Mem.tail _ (List.Mem.head _)), (List.forall_mem_cons.mpr ⟨(List.Mem.head _), (fun q h => absurd h List.not_mem_nil)⟩)⟩)⟩)⟩)⟩) ?_
  refine L34 ((24 - e3 : Int).toNat + 1) s x e6 0 e3 I F (mx_0 (by omega)) (by first | exact ⟨by decide, And.intro (p0.1) (p0.2), oq_15ca313a he6 b4.1 p1.1, And.intro (by decide) (by decide), oq_b74587d4 he3, oq_f627406d he3 b1.1 p1.2, oq_27f44d03 he3, oq_f5925612 he6, oq_86d47d54 he6, oq_7ed948bf he6 b4.1 he3 b1.1 p1.2 p1.1⟩ | omega) (Nat.lt_succ_self _) ?_
  intro s7 x8 x9 Is7 Fs7 Qs7 hs7
  refine z_load X (x := x8) (show cdA 117 66 = some (.iload 5, 2, 0, 0, 0) from rfl) (List.Mem.tail _ (List.Mem.tail _ (List.Mem.tail _ (List.Mem.head _)))) ?_
  exact w_iret X.1 q hRt rfl (ax_d X (show cdA 117 68 = some (.ireturn, 1, 0, 0, 0) from rfl)) (Nat.zero_le _) (Nat.zero_le _) ⟨_, rfl, Is7, Fs7, x8, rfl, ⟨by first | exact oq_fa4e5087 hs7.1 | omega, by first | exact oq_cbe526b3 hs7.2 | omega⟩, ⟨by first | exact hs7.1 | omega, by first | exact hs7.2 | omega, Qs7⟩⟩
set_option maxRecDepth 4000 in
theorem c9_retell2 (G : GX l s0 D tys a0 dT) (I : Bd s) {x : Int} (p0 : 0 ≤ x ∧ x ≤ 11) : CT l s0 D A dT 116 (rmN 116) [.ref (A 3), .int (Int32.ofInt x)] s (fun o t => Bd t ∧ Fm [] [11, 12, 13, 14] s t ∧ o = .inl none ∧ (RTQ x 24 s t ∧ RTS x 24 s t)) := by
  refine ct_ofX G (by decide) (Nat.le_of_ble_eq_true rfl) (fun k X E ET hRt hXt q => ?_)
  show WS k 0 [(0, .ref (A 3)), (1, .int (Int32.ofInt x))] [] _ 0 0
  have F : Fm [] [11, 12, 13, 14] s s := fm_rf _ _ s
  have aw0_11 : SAM 11 s s := sam_rf
  have aw0_12 : SAM 12 s s := sam_rf
  have L16 : ∀ (n : Nat) (t : PS) (xv qq : Int), Bd t → Fm [] [11, 12, 13, 14] s t → (RTQ x qq s t ∧ RTS x qq s t) → (xv = x ∧ (0 ≤ xv ∧ xv ≤ 11) ∧ 0 ≤ qq ∧ qq ≤ 24 ∧ iC t 12 (xv).toNat ≤ 50 * qq ∧ iC t 13 (xv).toNat ≤ 50 * qq) → (24 - qq : Int).toNat < n → (∀ (t' : PS) (qq' : Int), Bd t' → Fm [] [11, 12, 13, 14] s t' → (RTQ x 24 s t' ∧ RTS x 24 s t') → (qq' = 24 ∧ xv = x) → WS k 77 [(0, .ref (A 3)), (1, .int (Int32.ofInt xv)), (2, .int (Int32.ofInt qq'))] [] (Wd A dT t') 0 0) → WS k 16 [(0, .ref (A 3)), (1, .int (Int32.ofInt xv)), (2, .int (Int32.ofInt qq))] [] (Wd A dT t) 0 0 := by
    intro n
    induction n with
    | zero =>
      intro t xv qq I F hq hi hm kx
      exact absurd hm (Nat.not_lt_zero _)
    | succ n ih =>
      intro t xv qq I F hq hi hm kx
      refine z_load_n X (x := qq) (show cdA 116 16 = some (.iload_n 2, 1, 0, 0, 0) from rfl) (List.Mem.tail _ (List.Mem.tail _ (List.Mem.head _))) ?_
      refine z_bipush X (show cdA 116 17 = some (.bipush 24, 2, 0, 0, 24) from rfl) ?_
      refine z_icmp_ge X (t := 77) (show cdA 116 19 = some (.if_icmp .ge 58, 3, 3, 0, 0) from rfl) (by decide) ⟨by first | exact oq_fa4e5087 hi.2.2.1 | omega, by first | exact oq_5bcd337f hi.2.2.2.1 | omega⟩ (by decide) (fun g1001 => ?_) (fun g1001 => ?_)
      ·
        refine WS_lv (lv := [(0, .ref (A 3)), (1, .int (Int32.ofInt xv)), (2, .int (Int32.ofInt qq))]) (List.forall_mem_cons.mpr ⟨(List.Mem.head _), (List.forall_mem_cons.mpr ⟨(List.Mem.tail _ (List.Mem.head _)), (List.forall_mem_cons.mpr ⟨(List.Mem.tail _ (List.Mem.tail _ (List.Mem.head _))), (fun q h => absurd h List.not_mem_nil)⟩)⟩)⟩) ?_
        exact kx _ qq I F (by rw [show (24 : Int) = qq by omega]; exact hq) (by first | exact ⟨oq_ea1742b3 hi.2.2.2.1 g1001, hi.1⟩ | omega)
      ·
        refine z_aload_n X (x := A 3) (show cdA 116 22 = some (.aload_n 0, 1, 0, 0, 0) from rfl) (List.Mem.head _) ?_
        refine z_load_n X (x := xv) (show cdA 116 23 = some (.iload_n 1, 1, 0, 0, 0) from rfl) (List.Mem.tail _ (List.Mem.head _)) ?_
        refine z_load_n X (x := qq) (show cdA 116 24 = some (.iload_n 2, 1, 0, 0, 0) from rfl) (List.Mem.tail _ (List.Mem.tail _ (List.Mem.head _))) ?_
        refine z_callV X 3 (rm := rmN 117) (As := [.int (Int32.ofInt xv), .int (Int32.ofInt qq)]) (st := []) (show cdA 116 25 = some (.invokevirtual 143, 3, 117, 0, 0) from rfl) rfl (by decide) rfl (by rw [E.1, E.2.1, E.2.2.1]; exact c9_mostIn2 G I (by first | exact ⟨hi.2.1.1, hi.2.1.2⟩ | omega) (by first | exact ⟨hi.2.2.1, oq_c69fe266 g1001⟩ | omega)) ⟨by rw [E.2.2.2]; exact (show (rmN 117).frames + 1 ≤ (rmN 116).frames by decide), by rw [E.2.2.2]; exact (show 8 + (mNL (miB 117) + 11) + (rmN 117).locals ≤ (rmN 116).locals by decide), by rw [E.2.2.2]; exact (show 0 + (rmN 117).cells ≤ (rmN 116).cells by decide), by rw [E.2.2.2]; exact (show 0 + (rmN 117).slots ≤ (rmN 116).slots by decide)⟩ (Nat.le_of_ble_eq_true rfl) (fun vv s1002 hq => ?_) (fun ee s1002 hq => ?_)
        rotate_left
        · obtain ⟨Is1002, Fs1002, e1003, hv, hrs1002, hps1002⟩ := hq; cases hv
        obtain ⟨Is1002, Fs1002, e1003, hv, hrs1002, hps1002⟩ := hq
        cases hv
        have Gs1002 := fm_ts F Fs1002 (by decide) (by decide)
        have cw1004 : iC s1002 12 (xv).toNat = iC t 12 (xv).toNat := fm_c Fs1002 (by decide)
        have cw1005 : iC s1002 13 (xv).toNat = iC t 13 (xv).toNat := fm_c Fs1002 (by decide)
        have aws1002_11 : SAM 11 t s1002 := sam_ts (sam_rf (a := 11) (s := t)) (sam_fm Fs1002 (by decide))
        have aws1002_12 : SAM 12 t s1002 := sam_ts (sam_rf (a := 12) (s := t)) (sam_fm Fs1002 (by decide))
        have aws1002_8 : SAM 8 t s1002 := sam_ts (sam_rf (a := 8) (s := t)) (sam_fm Fs1002 (by decide))
        show WS k 28 [(0, .ref (A 3)), (1, .int (Int32.ofInt xv)), (2, .int (Int32.ofInt qq))] [.int (Int32.ofInt e1003)] (Wd A dT s1002) 0 0
        refine z_store_n X (lv' := [(3, .int (Int32.ofInt e1003)), (0, .ref (A 3)), (1, .int (Int32.ofInt xv)), (2, .int (Int32.ofInt qq))]) (show cdA 116 28 = some (.istore_n 3, 1, 0, 0, 0) from rfl) (by decide) (fun _ h => h) ?_
        refine z_aload_n X (x := A 3) (show cdA 116 29 = some (.aload_n 0, 1, 0, 0, 0) from rfl) (List.Mem.tail _ (List.Mem.head _)) ?_
        refine s_getR X 3 (show cdA 116 30 = some (.getfield 43, 3, 9, 12, 0) from rfl) (by decide) rfl rfl ?_
        refine z_load_n X (x := qq) (show cdA 116 33 = some (.iload_n 2, 1, 0, 0, 0) from rfl) (List.Mem.tail _ (List.Mem.tail _ (List.Mem.tail _ (List.Mem.head _)))) ?_
        refine z_bipush X (show cdA 116 34 = some (.bipush 12, 2, 0, 0, 12) from rfl) ?_
        refine z_mul X (show cdA 116 36 = some (.imul, 1, 0, 0, 0) from rfl) ?_
        refine z_load_n X (x := xv) (show cdA 116 37 = some (.iload_n 1, 1, 0, 0, 0) from rfl) (List.Mem.tail _ (List.Mem.tail _ (List.Mem.head _))) ?_
        refine z_add X (show cdA 116 38 = some (.iadd, 1, 0, 0, 0) from rfl) ?_
        refine z_load_n X (x := e1003) (show cdA 116 39 = some (.iload_n 3, 1, 0, 0, 0) from rfl) (List.Mem.head _) ?_
        refine z_ast X 14 (show cdA 116 40 = some (.iastore, 1, 0, 0, 0) from rfl) (by decide) rfl (by first | exact oq_1d1618ee hi.2.1.1 hi.2.2.1 | omega) (show ((qq * 12) + xv) < 288 by first | exact oq_b653f49d g1001 hi.2.1.2 | omega) (by decide) ?_
        obtain ⟨s1006, hs1006⟩ : ∃ x0, x0 = uC s1002 11 (((qq * 12) + xv)).toNat (Int32.ofInt e1003) := ⟨_, rfl⟩
        rw [← hs1006]
        have Is1006 : Bd s1006 := by rw [hs1006]; exact bd_C Is1002 (show (0 : Int) ≤ e1003 ∧ e1003 ≤ 50 by first | exact ⟨hps1002.1, hps1002.2.1⟩ | omega) hrs1002
        have Fs1006 := fm_C (i := (((qq * 12) + xv)).toNat) (x := Int32.ofInt e1003) Gs1002 (show 11 ∈ _ by decide)
        rw [← hs1006] at Fs1006
        have aws1006_11 : UPD 11 (((qq * 12) + xv)) e1003 t s1006 := by rw [hs1006]; exact upd_put aws1002_11 hrs1002
        have aws1006_12 : SAM 12 t s1006 := by rw [hs1006]; exact sam_C (by decide) aws1002_12
        have aws1006_8 : SAM 8 t s1006 := by rw [hs1006]; exact sam_C (by decide) aws1002_8
        have cw1007 : iC s1006 12 (xv).toNat = iC s1002 12 (xv).toNat := by rw [hs1006]; exact iC_a (by omega)
        have cw1008 : iC s1006 13 (xv).toNat = iC s1002 13 (xv).toNat := by rw [hs1006]; exact iC_a (by omega)
        refine z_aload_n X (x := A 3) (show cdA 116 41 = some (.aload_n 0, 1, 0, 0, 0) from rfl) (List.Mem.tail _ (List.Mem.head _)) ?_
        refine s_getR X 3 (show cdA 116 42 = some (.getfield 46, 3, 9, 13, 0) from rfl) (by decide) rfl rfl ?_
        refine z_load_n X (x := xv) (show cdA 116 45 = some (.iload_n 1, 1, 0, 0, 0) from rfl) (List.Mem.tail _ (List.Mem.tail _ (List.Mem.head _))) ?_
        refine w_dup2_11 X.1 (ax_d X (show cdA 116 46 = some (.dup2, 1, 0, 0, 0) from rfl)) rfl rfl ?_
        refine z_ald X 15 (show cdA 116 47 = some (.iaload, 1, 0, 0, 0) from rfl) (by decide) rfl (by first | exact hi.2.1.1 | omega) (show xv < 12 by first | exact oq_0ddfcfee hi.2.1.2 | omega) (by decide) ?_
        have b1009 : (0 : Int) ≤ iC s1006 12 (xv).toNat ∧ iC s1006 12 (xv).toNat ≤ 1200 := Is1006.2 12 _ (show (xv).toNat < 12 by first | exact oq_9c5fa447 hi.2.1.2 | omega)
        have ar1010 : iC s1006 12 (xv).toNat = iC t 12 (xv).toNat := aws1006_12 _
        refine z_aload_n X (x := A 3) (show cdA 116 48 = some (.aload_n 0, 1, 0, 0, 0) from rfl) (List.Mem.tail _ (List.Mem.head _)) ?_
        refine s_getR X 3 (show cdA 116 49 = some (.getfield 34, 3, 9, 9, 0) from rfl) (by decide) rfl rfl ?_
        refine z_load_n X (x := xv) (show cdA 116 52 = some (.iload_n 1, 1, 0, 0, 0) from rfl) (List.Mem.tail _ (List.Mem.tail _ (List.Mem.head _))) ?_
        refine z_bipush X (show cdA 116 53 = some (.bipush 24, 2, 0, 0, 24) from rfl) ?_
        refine z_mul X (show cdA 116 55 = some (.imul, 1, 0, 0, 0) from rfl) ?_
        refine z_load_n X (x := qq) (show cdA 116 56 = some (.iload_n 2, 1, 0, 0, 0) from rfl) (List.Mem.tail _ (List.Mem.tail _ (List.Mem.tail _ (List.Mem.head _)))) ?_
        refine z_add X (show cdA 116 57 = some (.iadd, 1, 0, 0, 0) from rfl) ?_
        refine z_ald X 11 (show cdA 116 58 = some (.iaload, 1, 0, 0, 0) from rfl) (by decide) rfl (by first | exact oq_4071a75f hi.2.1.1 hi.2.2.1 | omega) (show ((xv * 24) + qq) < 288 by first | exact oq_86e8e22d hi.2.1.2 g1001 | omega) (by decide) ?_
        have b1011 : (0 : Int) ≤ iC s1006 8 (((xv * 24) + qq)).toNat ∧ iC s1006 8 (((xv * 24) + qq)).toNat ≤ 50 := Is1006.2 8 _ (show (((xv * 24) + qq)).toNat < 288 by first | exact oq_7d86e3d4 hi.2.1.2 g1001 | omega)
        have ar1012 : iC s1006 8 (((xv * 24) + qq)).toNat = iC t 8 (((xv * 24) + qq)).toNat := aws1006_8 _
        refine z_add X (show cdA 116 59 = some (.iadd, 1, 0, 0, 0) from rfl) ?_
        refine z_ast X 15 (show cdA 116 60 = some (.iastore, 1, 0, 0, 0) from rfl) (by decide) rfl (by first | exact hi.2.1.1 | omega) (show xv < 12 by first | exact oq_0ddfcfee hi.2.1.2 | omega) (by decide) ?_
        obtain ⟨s1013, hs1013⟩ : ∃ x0, x0 = uC s1006 12 (xv).toNat (Int32.ofInt ((iC s1006 12 (xv).toNat) + (iC s1006 8 (((xv * 24) + qq)).toNat))) := ⟨_, rfl⟩
        rw [← hs1013]
        have Is1013 : Bd s1013 := by rw [hs1013]; exact bd_C Is1006 (show (0 : Int) ≤ ((iC s1006 12 (xv).toNat) + (iC s1006 8 (((xv * 24) + qq)).toNat)) ∧ ((iC s1006 12 (xv).toNat) + (iC s1006 8 (((xv * 24) + qq)).toNat)) ≤ 1200 by first | exact ⟨oq_d8d6a599 b1011.1 b1009.1, oq_7ef63f09 b1011.2 ar1010 hi.2.2.2.2.1 g1001⟩ | omega) ⟨by first | exact oq_46831602 b1011.1 b1009.1 | omega, by first | exact oq_9e0d5d26 b1011.2 b1009.2 | omega⟩
        have Fs1013 := fm_C (i := (xv).toNat) (x := Int32.ofInt ((iC s1006 12 (xv).toNat) + (iC s1006 8 (((xv * 24) + qq)).toNat))) Fs1006 (show 12 ∈ _ by decide)
        rw [← hs1013] at Fs1013
        have vs1013 : iC s1013 12 (xv).toNat = ((iC s1006 12 (xv).toNat) + (iC s1006 8 (((xv * 24) + qq)).toNat)) := by rw [hs1013]; exact iC_u ⟨by first | exact oq_46831602 b1011.1 b1009.1 | omega, by first | exact oq_9e0d5d26 b1011.2 b1009.2 | omega⟩
        have aws1013_11 : UPD 11 (((qq * 12) + xv)) e1003 t s1013 := by rw [hs1013]; exact upd_C (by decide) aws1006_11
        have aws1013_12 : UPD 12 (xv) ((iC s1006 12 (xv).toNat) + (iC s1006 8 (((xv * 24) + qq)).toNat)) t s1013 := by rw [hs1013]; exact upd_put aws1006_12 ⟨by first | exact oq_46831602 b1011.1 b1009.1 | omega, by first | exact oq_9e0d5d26 b1011.2 b1009.2 | omega⟩
        have aws1013_8 : SAM 8 t s1013 := by rw [hs1013]; exact sam_C (by decide) aws1006_8
        have cw1014 : iC s1013 13 (xv).toNat = iC s1006 13 (xv).toNat := by rw [hs1013]; exact iC_a (by omega)
        refine z_aload_n X (x := A 3) (show cdA 116 61 = some (.aload_n 0, 1, 0, 0, 0) from rfl) (List.Mem.tail _ (List.Mem.head _)) ?_
        refine s_getR X 3 (show cdA 116 62 = some (.getfield 49, 3, 9, 14, 0) from rfl) (by decide) rfl rfl ?_
        refine z_load_n X (x := xv) (show cdA 116 65 = some (.iload_n 1, 1, 0, 0, 0) from rfl) (List.Mem.tail _ (List.Mem.tail _ (List.Mem.head _))) ?_
        refine w_dup2_11 X.1 (ax_d X (show cdA 116 66 = some (.dup2, 1, 0, 0, 0) from rfl)) rfl rfl ?_
        refine z_ald X 16 (show cdA 116 67 = some (.iaload, 1, 0, 0, 0) from rfl) (by decide) rfl (by first | exact hi.2.1.1 | omega) (show xv < 12 by first | exact oq_0ddfcfee hi.2.1.2 | omega) (by decide) ?_
        have b1015 : (0 : Int) ≤ iC s1013 13 (xv).toNat ∧ iC s1013 13 (xv).toNat ≤ 1200 := Is1013.2 13 _ (show (xv).toNat < 12 by first | exact oq_9c5fa447 hi.2.1.2 | omega)
        refine z_load_n X (x := e1003) (show cdA 116 68 = some (.iload_n 3, 1, 0, 0, 0) from rfl) (List.Mem.head _) ?_
        refine z_add X (show cdA 116 69 = some (.iadd, 1, 0, 0, 0) from rfl) ?_
        refine z_ast X 16 (show cdA 116 70 = some (.iastore, 1, 0, 0, 0) from rfl) (by decide) rfl (by first | exact hi.2.1.1 | omega) (show xv < 12 by first | exact oq_0ddfcfee hi.2.1.2 | omega) (by decide) ?_
        obtain ⟨s1016, hs1016⟩ : ∃ x0, x0 = uC s1013 13 (xv).toNat (Int32.ofInt ((iC s1013 13 (xv).toNat) + e1003)) := ⟨_, rfl⟩
        rw [← hs1016]
        have Is1016 : Bd s1016 := by rw [hs1016]; exact bd_C Is1013 (show (0 : Int) ≤ ((iC s1013 13 (xv).toNat) + e1003) ∧ ((iC s1013 13 (xv).toNat) + e1003) ≤ 1200 by first | exact ⟨oq_d8d6a599 hps1002.1 b1015.1, oq_b519fb4a cw1014 cw1008 cw1005 hps1002.2.1 g1001 hi.2.2.2.2.2⟩ | omega) ⟨by first | exact oq_46831602 hps1002.1 b1015.1 | omega, by first | exact oq_9e0d5d26 hps1002.2.1 b1015.2 | omega⟩
        have Fs1016 := fm_C (i := (xv).toNat) (x := Int32.ofInt ((iC s1013 13 (xv).toNat) + e1003)) Fs1013 (show 13 ∈ _ by decide)
        rw [← hs1016] at Fs1016
        have vs1016 : iC s1016 13 (xv).toNat = ((iC s1013 13 (xv).toNat) + e1003) := by rw [hs1016]; exact iC_u ⟨by first | exact oq_46831602 hps1002.1 b1015.1 | omega, by first | exact oq_9e0d5d26 hps1002.2.1 b1015.2 | omega⟩
        have aws1016_11 : UPD 11 (((qq * 12) + xv)) e1003 t s1016 := by rw [hs1016]; exact upd_C (by decide) aws1013_11
        have aws1016_12 : UPD 12 (xv) ((iC s1006 12 (xv).toNat) + (iC s1006 8 (((xv * 24) + qq)).toNat)) t s1016 := by rw [hs1016]; exact upd_C (by decide) aws1013_12
        have aws1016_8 : SAM 8 t s1016 := by rw [hs1016]; exact sam_C (by decide) aws1013_8
        have cw1017 : iC s1016 12 (xv).toNat = iC s1013 12 (xv).toNat := by rw [hs1016]; exact iC_a (by omega)
        refine z_inc X (x := qq) (lv' := [(2, .int (Int32.ofInt (qq + 1))), (3, .int (Int32.ofInt e1003)), (0, .ref (A 3)), (1, .int (Int32.ofInt xv))]) (show cdA 116 71 = some (.iinc 2 1, 3, 0, 0, 0) from rfl) (by decide) (List.Mem.tail _ (List.Mem.tail _ (List.Mem.tail _ (List.Mem.head _)))) (fun _ h => h) ?_
        refine z_goto X (t := 16) (show cdA 116 74 = some (.goto (-58), 3, 0, 0, 0) from rfl) (by decide) ?_
        refine WS_lv (lv := [(0, .ref (A 3)), (1, .int (Int32.ofInt xv)), (2, .int (Int32.ofInt (qq + 1)))]) (List.forall_mem_cons.mpr ⟨(List.Mem.tail _ (List.Mem.tail _ (List.Mem.head _))), (List.forall_mem_cons.mpr ⟨(List.Mem.tail _ (List.Mem.tail _ (List.Mem.tail _ (List.Mem.head _)))), (List.forall_mem_cons.mpr ⟨(List.Mem.head _), (fun q h => absurd h List.not_mem_nil)⟩)⟩)⟩) ?_
        exact ih _ xv (qq + 1) Is1016 Fs1016 ⟨rtq_up hq.1 (upd_ix aws1016_11 (by rw [show xv = x by omega])) (mx_st hps1002.2.2 (sam_fm F (by decide) : SAM 8 s t) (sam_fm F (by decide) : SAM 10 s t) (sam_fm F (by decide) : SAM 9 s t) (by omega)) (by omega) (by omega) (by omega) (by omega), rts_up (v := CNR s x qq) hq.2 (upd_ix aws1016_12 (by omega)) (by rw [show x = xv by omega]; unfold CNR; have z1 := (sam_fm F (by decide) : SAM 8 s t) (xv * 24 + qq).toNat; omega) rfl (by omega) (by omega)⟩ (by first | exact ⟨hi.1, And.intro (hi.2.1.1) (hi.2.1.2), oq_54f49eb5 hi.2.2.1, oq_cec7cb2e g1001, oq_99166280 cw1017 vs1013 hi.2.2.2.2.1 ar1010 b1011.2, oq_b1573aec vs1016 cw1014 cw1008 cw1005 hps1002.2.1 hi.2.2.2.2.2⟩ | omega) (by first | exact qk_me hm (by decide) (oq_ffa8317e g1001) | omega) kx
  have L79 : ∀ (n : Nat) (t : PS) (xv qq : Int), Bd t → Fm [] [11, 12, 13, 14] s t → (RTQ x 24 s t ∧ RTS x 24 s t) → (0 ≤ qq ∧ qq ≤ 24) → (24 - qq : Int).toNat < n → (∀ (t' : PS) (qq' : Int), Bd t' → Fm [] [11, 12, 13, 14] s t' → (RTQ x 24 s t' ∧ RTS x 24 s t') → (0 ≤ qq' ∧ qq' ≤ 24) → WS k 102 [(0, .ref (A 3)), (1, .int (Int32.ofInt xv)), (2, .int (Int32.ofInt qq'))] [] (Wd A dT t') 0 0) → WS k 79 [(0, .ref (A 3)), (1, .int (Int32.ofInt xv)), (2, .int (Int32.ofInt qq))] [] (Wd A dT t) 0 0 := by
    intro n
    induction n with
    | zero =>
      intro t xv qq I F hq hi hm kx
      exact absurd hm (Nat.not_lt_zero _)
    | succ n ih =>
      intro t xv qq I F hq hi hm kx
      refine z_load_n X (x := qq) (show cdA 116 79 = some (.iload_n 2, 1, 0, 0, 0) from rfl) (List.Mem.tail _ (List.Mem.tail _ (List.Mem.head _))) ?_
      refine z_bipush X (show cdA 116 80 = some (.bipush 24, 2, 0, 0, 24) from rfl) ?_
      refine z_icmp_ge X (t := 102) (show cdA 116 82 = some (.if_icmp .ge 20, 3, 3, 0, 0) from rfl) (by decide) ⟨by first | exact oq_fa4e5087 hi.1 | omega, by first | exact oq_5bcd337f hi.2 | omega⟩ (by decide) (fun g2001 => ?_) (fun g2001 => ?_)
      ·
        refine WS_lv (lv := [(0, .ref (A 3)), (1, .int (Int32.ofInt xv)), (2, .int (Int32.ofInt qq))]) (List.forall_mem_cons.mpr ⟨(List.Mem.head _), (List.forall_mem_cons.mpr ⟨(List.Mem.tail _ (List.Mem.head _)), (List.forall_mem_cons.mpr ⟨(List.Mem.tail _ (List.Mem.tail _ (List.Mem.head _))), (fun q h => absurd h List.not_mem_nil)⟩)⟩)⟩) ?_
        exact kx _ qq I F hq (by first | exact ⟨hi.1, hi.2⟩ | omega)
      ·
        refine z_aload_n X (x := A 3) (show cdA 116 85 = some (.aload_n 0, 1, 0, 0, 0) from rfl) (List.Mem.head _) ?_
        refine s_getR X 3 (show cdA 116 86 = some (.getfield 52, 3, 9, 15, 0) from rfl) (by decide) rfl rfl ?_
        refine z_load_n X (x := qq) (show cdA 116 89 = some (.iload_n 2, 1, 0, 0, 0) from rfl) (List.Mem.tail _ (List.Mem.tail _ (List.Mem.head _))) ?_
        refine z_aload_n X (x := A 3) (show cdA 116 90 = some (.aload_n 0, 1, 0, 0, 0) from rfl) (List.Mem.head _) ?_
        refine z_load_n X (x := qq) (show cdA 116 91 = some (.iload_n 2, 1, 0, 0, 0) from rfl) (List.Mem.tail _ (List.Mem.tail _ (List.Mem.head _))) ?_
        refine z_callV X 3 (rm := rmN 118) (As := [.int (Int32.ofInt qq)]) (st := [.int (Int32.ofInt qq), .ref (A 17)]) (show cdA 116 92 = some (.invokevirtual 146, 3, 118, 0, 0) from rfl) rfl (by decide) rfl (by rw [E.1, E.2.1, E.2.2.1]; exact c9_twinOf_3 G I (by first | exact ⟨hi.1, oq_c69fe266 g2001⟩ | omega)) ⟨by rw [E.2.2.2]; exact (show (rmN 118).frames + 1 ≤ (rmN 116).frames by decide), by rw [E.2.2.2]; exact (show 8 + (mNL (miB 118) + 11) + (rmN 118).locals ≤ (rmN 116).locals by decide), by rw [E.2.2.2]; exact (show 0 + (rmN 118).cells ≤ (rmN 116).cells by decide), by rw [E.2.2.2]; exact (show 0 + (rmN 118).slots ≤ (rmN 116).slots by decide)⟩ (Nat.le_of_ble_eq_true rfl) (fun vv s2002 hq => ?_) (fun ee s2002 hq => ?_)
        rotate_left
        · obtain ⟨Is2002, Fs2002, e2003, hv, hrs2002, hps2002⟩ := hq; cases hv
        obtain ⟨Is2002, Fs2002, e2003, hv, hrs2002, hps2002⟩ := hq
        cases hv
        have Gs2002 := fm_ts F Fs2002 (by decide) (by decide)
        have cw2004 : iC s2002 12 (xv).toNat = iC t 12 (xv).toNat := fm_c Fs2002 (by decide)
        have cw2005 : iC s2002 13 (xv).toNat = iC t 13 (xv).toNat := fm_c Fs2002 (by decide)
        have aws2002_11 : SAM 11 t s2002 := sam_ts (sam_rf (a := 11) (s := t)) (sam_fm Fs2002 (by decide))
        have aws2002_12 : SAM 12 t s2002 := sam_ts (sam_rf (a := 12) (s := t)) (sam_fm Fs2002 (by decide))
        have aws2002_8 : SAM 8 t s2002 := sam_ts (sam_rf (a := 8) (s := t)) (sam_fm Fs2002 (by decide))
        show WS k 95 [(0, .ref (A 3)), (1, .int (Int32.ofInt xv)), (2, .int (Int32.ofInt qq))] [.int (Int32.ofInt e2003), .int (Int32.ofInt qq), .ref (A 17)] (Wd A dT s2002) 0 0
        refine z_ast X 17 (show cdA 116 95 = some (.iastore, 1, 0, 0, 0) from rfl) (by decide) rfl (by first | exact hi.1 | omega) (show qq < 24 by first | exact g2001 | omega) (by decide) ?_
        obtain ⟨s2006, hs2006⟩ : ∃ x0, x0 = uC s2002 14 (qq).toNat (Int32.ofInt e2003) := ⟨_, rfl⟩
        rw [← hs2006]
        have Is2006 : Bd s2006 := by rw [hs2006]; exact bd_C Is2002 (show (0 : Int) ≤ e2003 ∧ e2003 ≤ 23 by first | exact ⟨hps2002.1, hps2002.2⟩ | omega) hrs2002
        have Fs2006 := fm_C (i := (qq).toNat) (x := Int32.ofInt e2003) Gs2002 (show 14 ∈ _ by decide)
        rw [← hs2006] at Fs2006
        have aws2006_11 : SAM 11 t s2006 := by rw [hs2006]; exact sam_C (by decide) aws2002_11
        have aws2006_12 : SAM 12 t s2006 := by rw [hs2006]; exact sam_C (by decide) aws2002_12
        have aws2006_8 : SAM 8 t s2006 := by rw [hs2006]; exact sam_C (by decide) aws2002_8
        have cw2007 : iC s2006 12 (xv).toNat = iC s2002 12 (xv).toNat := by rw [hs2006]; exact iC_a (by omega)
        have cw2008 : iC s2006 13 (xv).toNat = iC s2002 13 (xv).toNat := by rw [hs2006]; exact iC_a (by omega)
        refine z_inc X (x := qq) (lv' := [(2, .int (Int32.ofInt (qq + 1))), (0, .ref (A 3)), (1, .int (Int32.ofInt xv))]) (show cdA 116 96 = some (.iinc 2 1, 3, 0, 0, 0) from rfl) (by decide) (List.Mem.tail _ (List.Mem.tail _ (List.Mem.head _))) (fun _ h => h) ?_
        refine z_goto X (t := 79) (show cdA 116 99 = some (.goto (-20), 3, 0, 0, 0) from rfl) (by decide) ?_
        refine WS_lv (lv := [(0, .ref (A 3)), (1, .int (Int32.ofInt xv)), (2, .int (Int32.ofInt (qq + 1)))]) (List.forall_mem_cons.mpr ⟨(List.Mem.tail _ (List.Mem.head _)), (List.forall_mem_cons.mpr ⟨(List.Mem.tail _ (List.Mem.tail _ (List.Mem.head _))), (List.forall_mem_cons.mpr ⟨(List.Mem.head _), (fun q h => absurd h List.not_mem_nil)⟩)⟩)⟩) ?_
        exact ih _ xv (qq + 1) Is2006 Fs2006 ⟨rtq_sam hq.1 aws2006_11, rts_sam hq.2 aws2006_12⟩ (by first | exact ⟨oq_54f49eb5 hi.1, oq_cec7cb2e g2001⟩ | omega) (by first | exact qk_me hm (by decide) (oq_ffa8317e g2001) | omega) kx
  refine z_aload_n X (x := A 3) (show cdA 116 0 = some (.aload_n 0, 1, 0, 0, 0) from rfl) (List.Mem.head _) ?_
  refine s_getR X 3 (show cdA 116 1 = some (.getfield 46, 3, 9, 13, 0) from rfl) (by decide) rfl rfl ?_
  refine z_load_n X (x := x) (show cdA 116 4 = some (.iload_n 1, 1, 0, 0, 0) from rfl) (List.Mem.tail _ (List.Mem.head _)) ?_
  refine z_const X (show cdA 116 5 = some (.iconst 0, 1, 0, 0, 0) from rfl) ?_
  refine z_ast X 15 (show cdA 116 6 = some (.iastore, 1, 0, 0, 0) from rfl) (by decide) rfl (by first | exact p0.1 | omega) (show x < 12 by first | exact oq_0ddfcfee p0.2 | omega) (by decide) ?_
  obtain ⟨s1, hs1⟩ : ∃ x0, x0 = uC s 12 (x).toNat (Int32.ofInt 0) := ⟨_, rfl⟩
  rw [← hs1]
  have Is1 : Bd s1 := by rw [hs1]; exact bd_C I (show (0 : Int) ≤ 0 ∧ 0 ≤ 1200 by first | exact ⟨by decide, by decide⟩ | omega) (by decide)
  have Fs1 := fm_C (i := (x).toNat) (x := Int32.ofInt 0) F (show 12 ∈ _ by decide)
  rw [← hs1] at Fs1
  have vs1 : iC s1 12 (x).toNat = 0 := by rw [hs1]; exact iC_u (by decide)
  have aws1_11 : SAM 11 s s1 := by rw [hs1]; exact sam_C (by decide) aw0_11
  have aws1_12 : UPD 12 (x) 0 s s1 := by rw [hs1]; exact upd_put aw0_12 (by decide)
  have cw2 : iC s1 13 (x).toNat = iC s 13 (x).toNat := by rw [hs1]; exact iC_a (by omega)
  refine z_aload_n X (x := A 3) (show cdA 116 7 = some (.aload_n 0, 1, 0, 0, 0) from rfl) (List.Mem.head _) ?_
  refine s_getR X 3 (show cdA 116 8 = some (.getfield 49, 3, 9, 14, 0) from rfl) (by decide) rfl rfl ?_
  refine z_load_n X (x := x) (show cdA 116 11 = some (.iload_n 1, 1, 0, 0, 0) from rfl) (List.Mem.tail _ (List.Mem.head _)) ?_
  refine z_const X (show cdA 116 12 = some (.iconst 0, 1, 0, 0, 0) from rfl) ?_
  refine z_ast X 16 (show cdA 116 13 = some (.iastore, 1, 0, 0, 0) from rfl) (by decide) rfl (by first | exact p0.1 | omega) (show x < 12 by first | exact oq_0ddfcfee p0.2 | omega) (by decide) ?_
  obtain ⟨s3, hs3⟩ : ∃ x0, x0 = uC s1 13 (x).toNat (Int32.ofInt 0) := ⟨_, rfl⟩
  rw [← hs3]
  have Is3 : Bd s3 := by rw [hs3]; exact bd_C Is1 (show (0 : Int) ≤ 0 ∧ 0 ≤ 1200 by first | exact ⟨by decide, by decide⟩ | omega) (by decide)
  have Fs3 := fm_C (i := (x).toNat) (x := Int32.ofInt 0) Fs1 (show 13 ∈ _ by decide)
  rw [← hs3] at Fs3
  have vs3 : iC s3 13 (x).toNat = 0 := by rw [hs3]; exact iC_u (by decide)
  have aws3_11 : SAM 11 s s3 := by rw [hs3]; exact sam_C (by decide) aws1_11
  have aws3_12 : UPD 12 (x) 0 s s3 := by rw [hs3]; exact upd_C (by decide) aws1_12
  have cw4 : iC s3 12 (x).toNat = iC s1 12 (x).toNat := by rw [hs3]; exact iC_a (by omega)
  refine z_const X (show cdA 116 14 = some (.iconst 0, 1, 0, 0, 0) from rfl) ?_
  refine z_store_n X (lv' := [(2, .int (Int32.ofInt 0)), (0, .ref (A 3)), (1, .int (Int32.ofInt x))]) (show cdA 116 15 = some (.istore_n 2, 1, 0, 0, 0) from rfl) (by decide) (fun _ h => h) ?_
  refine WS_lv (lv := [(0, .ref (A 3)), (1, .int (Int32.ofInt x)), (2, .int (Int32.ofInt 0))]) (List.forall_mem_cons.mpr ⟨(List.Mem.tail _ (List.Mem.head _)), (List.forall_mem_cons.mpr ⟨(List.Mem.tail _ (List.Mem.tail _ (List.Mem.head _))), (List.forall_mem_cons.mpr ⟨(List.Mem.head _), (fun q h => absurd h List.not_mem_nil)⟩)⟩)⟩) ?_
  refine L16 ((24 - 0 : Int).toNat + 1) s3 x 0 Is3 Fs3 ⟨rtq_0 aws3_11, rts_0 aws3_12 (by omega)⟩ (by first | exact ⟨by decide, And.intro (p0.1) (p0.2), by decide, by decide, oq_b7d23363 cw4 vs1, oq_d4917756 vs3⟩ | omega) (Nat.lt_succ_self _) ?_
  intro s5 x6 Is5 Fs5 Qs5 hs5
  refine z_const X (show cdA 116 77 = some (.iconst 0, 1, 0, 0, 0) from rfl) ?_
  refine z_store_n X (lv' := [(2, .int (Int32.ofInt 0)), (0, .ref (A 3)), (1, .int (Int32.ofInt x))]) (show cdA 116 78 = some (.istore_n 2, 1, 0, 0, 0) from rfl) (by decide) (fun _ h => h) ?_
  refine WS_lv (lv := [(0, .ref (A 3)), (1, .int (Int32.ofInt x)), (2, .int (Int32.ofInt 0))]) (List.forall_mem_cons.mpr ⟨(List.Mem.tail _ (List.Mem.head _)), (List.forall_mem_cons.mpr ⟨(List.Mem.tail _ (List.Mem.tail _ (List.Mem.head _))), (List.forall_mem_cons.mpr ⟨(List.Mem.head _), (fun q h => absurd h List.not_mem_nil)⟩)⟩)⟩) ?_
  refine L79 ((24 - 0 : Int).toNat + 1) s5 x 0 Is5 Fs5 Qs5 (by first | exact ⟨by decide, by decide⟩ | omega) (Nat.lt_succ_self _) ?_
  intro s7 x8 Is7 Fs7 Qs7 hs7
  exact w_vret X.1 q hRt (ax_d X (show cdA 116 102 = some (.return_, 1, 0, 0, 0) from rfl)) (Nat.zero_le _) (Nat.zero_le _) ⟨_, rfl, Is7, Fs7, rfl, Qs7⟩
set_option maxRecDepth 4000 in
theorem c9_setCounts2 (G : GX l s0 D tys a0 dT) (I : Bd s) (jMOI : MOI s) {x y z w : Int} (p0 : 0 ≤ x ∧ x ≤ 11) (p1 : 0 ≤ y ∧ y ≤ 23) (p2 : 0 ≤ z ∧ z ≤ 23) (p3 : 0 ≤ w ∧ w ≤ 50) (p4 : y ≤ z) : CT l s0 D A dT 114 (rmN 114) [.ref (A 3), .int (Int32.ofInt x), .int (Int32.ofInt y), .int (Int32.ofInt z), .int (Int32.ofInt w)] s (fun o t => Bd t ∧ Fm [] [8, 11, 12, 13, 14] s t ∧ o = .inl none ∧ (MOI t ∧ FLU (CNR s) (CNR t) x y (z + 1) w)) := by
  refine ct_ofX G (by decide) (Nat.le_of_ble_eq_true rfl) (fun k X E ET hRt hXt q => ?_)
  show WS k 0 [(0, .ref (A 3)), (1, .int (Int32.ofInt x)), (2, .int (Int32.ofInt y)), (3, .int (Int32.ofInt z)), (4, .int (Int32.ofInt w))] [] _ 0 0
  have F : Fm [] [8, 11, 12, 13, 14] s s := fm_rf _ _ s
  have L3 : ∀ (n : Nat) (t : PS) (xv zv wv qq : Int), Bd t → Fm [] [8, 11, 12, 13, 14] s t → (FLU (CNR s) (CNR t) x y qq w ∧ SAM 11 s t ∧ SAM 12 s t) → ((xv = x ∧ zv = z ∧ wv = w ∧ y ≤ qq ∧ qq ≤ z + 1) ∧ (0 ≤ xv ∧ xv ≤ 11) ∧ (0 ≤ zv ∧ zv ≤ 23) ∧ (0 ≤ wv ∧ wv ≤ 50) ∧ 0 ≤ qq ∧ qq ≤ 24) → (24 - qq : Int).toNat < n → (∀ (t' : PS) (qq' : Int), Bd t' → Fm [] [8, 11, 12, 13, 14] s t' → (FLU (CNR s) (CNR t') x y (z + 1) w ∧ SAM 11 s t' ∧ SAM 12 s t') → (xv = x ∧ qq' = z + 1) → WS k 29 [(0, .ref (A 3)), (1, .int (Int32.ofInt xv)), (3, .int (Int32.ofInt zv)), (4, .int (Int32.ofInt wv)), (5, .int (Int32.ofInt qq'))] [] (Wd A dT t') 0 0) → WS k 3 [(0, .ref (A 3)), (1, .int (Int32.ofInt xv)), (3, .int (Int32.ofInt zv)), (4, .int (Int32.ofInt wv)), (5, .int (Int32.ofInt qq))] [] (Wd A dT t) 0 0 := by
    intro n
    induction n with
    | zero =>
      intro t xv zv wv qq I F hq hi hm kx
      exact absurd hm (Nat.not_lt_zero _)
    | succ n ih =>
      intro t xv zv wv qq I F hq hi hm kx
      refine z_load X (x := qq) (show cdA 114 3 = some (.iload 5, 2, 0, 0, 0) from rfl) (List.Mem.tail _ (List.Mem.tail _ (List.Mem.tail _ (List.Mem.tail _ (List.Mem.head _))))) ?_
      refine z_load_n X (x := zv) (show cdA 114 5 = some (.iload_n 3, 1, 0, 0, 0) from rfl) (List.Mem.tail _ (List.Mem.tail _ (List.Mem.head _))) ?_
      refine z_icmp_gt X (t := 29) (show cdA 114 6 = some (.if_icmp .gt 23, 3, 4, 0, 0) from rfl) (by decide) ⟨by first | exact oq_fa4e5087 hi.2.2.2.2.1 | omega, by first | exact oq_5bcd337f hi.2.2.2.2.2 | omega⟩ ⟨by first | exact oq_fa4e5087 hi.2.2.1.1 | omega, by first | exact oq_1a42ef34 hi.2.2.1.2 | omega⟩ (fun g1001 => ?_) (fun g1001 => ?_)
      ·
        refine WS_lv (lv := [(0, .ref (A 3)), (1, .int (Int32.ofInt xv)), (3, .int (Int32.ofInt zv)), (4, .int (Int32.ofInt wv)), (5, .int (Int32.ofInt qq))]) (List.forall_mem_cons.mpr ⟨(List.Mem.head _), (List.forall_mem_cons.mpr ⟨(List.Mem.tail _ (List.Mem.head _)), (List.forall_mem_cons.mpr ⟨(List.Mem.tail _ (List.Mem.tail _ (List.Mem.head _))), (List.forall_mem_cons.mpr ⟨(List.Mem.tail _ (List.Mem.tail _ (List.Mem.tail _ (List.Mem.head _)))), (List.forall_mem_cons.mpr ⟨(List.Mem.tail _ (List.Mem.tail _ (List.Mem.tail _ (List.Mem.tail _ (List.Mem.head _))))), (fun q h => absurd h List.not_mem_nil)⟩)⟩)⟩)⟩)⟩) ?_
        exact kx _ qq I F (by rw [show z + 1 = qq by omega]; exact hq) (by first | exact ⟨hi.1.1, oq_4ab5b7c2 hi.1.2.2.2.2 hi.1.2.1 g1001⟩ | omega)
      ·
        refine z_aload_n X (x := A 3) (show cdA 114 9 = some (.aload_n 0, 1, 0, 0, 0) from rfl) (List.Mem.head _) ?_
        refine s_getR X 3 (show cdA 114 10 = some (.getfield 34, 3, 9, 9, 0) from rfl) (by decide) rfl rfl ?_
        refine z_load_n X (x := xv) (show cdA 114 13 = some (.iload_n 1, 1, 0, 0, 0) from rfl) (List.Mem.tail _ (List.Mem.head _)) ?_
        refine z_bipush X (show cdA 114 14 = some (.bipush 24, 2, 0, 0, 24) from rfl) ?_
        refine z_mul X (show cdA 114 16 = some (.imul, 1, 0, 0, 0) from rfl) ?_
        refine z_load X (x := qq) (show cdA 114 17 = some (.iload 5, 2, 0, 0, 0) from rfl) (List.Mem.tail _ (List.Mem.tail _ (List.Mem.tail _ (List.Mem.tail _ (List.Mem.head _))))) ?_
        refine z_add X (show cdA 114 19 = some (.iadd, 1, 0, 0, 0) from rfl) ?_
        refine z_load X (x := wv) (show cdA 114 20 = some (.iload 4, 2, 0, 0, 0) from rfl) (List.Mem.tail _ (List.Mem.tail _ (List.Mem.tail _ (List.Mem.head _)))) ?_
        refine z_ast X 11 (show cdA 114 22 = some (.iastore, 1, 0, 0, 0) from rfl) (by decide) rfl (by first | exact oq_4071a75f hi.2.1.1 hi.2.2.2.2.1 | omega) (show ((xv * 24) + qq) < 288 by first | exact oq_df38adfb hi.2.1.2 g1001 hi.2.2.1.2 | omega) (by decide) ?_
        obtain ⟨s1002, hs1002⟩ : ∃ x0, x0 = uC t 8 (((xv * 24) + qq)).toNat (Int32.ofInt wv) := ⟨_, rfl⟩
        rw [← hs1002]
        have Is1002 : Bd s1002 := by rw [hs1002]; exact bd_C I (show (0 : Int) ≤ wv ∧ wv ≤ 50 by first | exact ⟨hi.2.2.2.1.1, hi.2.2.2.1.2⟩ | omega) ⟨by first | exact oq_fa4e5087 hi.2.2.2.1.1 | omega, by first | exact oq_cbe526b3 hi.2.2.2.1.2 | omega⟩
        have Fs1002 := fm_C (i := (((xv * 24) + qq)).toNat) (x := Int32.ofInt wv) F (show 8 ∈ _ by decide)
        rw [← hs1002] at Fs1002
        have aws1002_8 : UPD 8 (((xv * 24) + qq)) wv t s1002 := by rw [hs1002]; exact upd_put (sam_rf (a := 8) (s := t)) ⟨by first | exact oq_fa4e5087 hi.2.2.2.1.1 | omega, by first | exact oq_cbe526b3 hi.2.2.2.1.2 | omega⟩
        have aws1002_11 : SAM 11 t s1002 := by rw [hs1002]; exact sam_C (by decide) (sam_rf (a := 11) (s := t))
        have aws1002_12 : SAM 12 t s1002 := by rw [hs1002]; exact sam_C (by decide) (sam_rf (a := 12) (s := t))
        refine z_inc X (x := qq) (lv' := [(5, .int (Int32.ofInt (qq + 1))), (0, .ref (A 3)), (1, .int (Int32.ofInt xv)), (3, .int (Int32.ofInt zv)), (4, .int (Int32.ofInt wv))]) (show cdA 114 23 = some (.iinc 5 1, 3, 0, 0, 0) from rfl) (by decide) (List.Mem.tail _ (List.Mem.tail _ (List.Mem.tail _ (List.Mem.tail _ (List.Mem.head _))))) (fun _ h => h) ?_
        refine z_goto X (t := 3) (show cdA 114 26 = some (.goto (-23), 3, 0, 0, 0) from rfl) (by decide) ?_
        refine WS_lv (lv := [(0, .ref (A 3)), (1, .int (Int32.ofInt xv)), (3, .int (Int32.ofInt zv)), (4, .int (Int32.ofInt wv)), (5, .int (Int32.ofInt (qq + 1)))]) (List.forall_mem_cons.mpr ⟨(List.Mem.tail _ (List.Mem.head _)), (List.forall_mem_cons.mpr ⟨(List.Mem.tail _ (List.Mem.tail _ (List.Mem.head _))), (List.forall_mem_cons.mpr ⟨(List.Mem.tail _ (List.Mem.tail _ (List.Mem.tail _ (List.Mem.head _)))), (List.forall_mem_cons.mpr ⟨(List.Mem.tail _ (List.Mem.tail _ (List.Mem.tail _ (List.Mem.tail _ (List.Mem.head _))))), (List.forall_mem_cons.mpr ⟨(List.Mem.head _), (fun q h => absurd h List.not_mem_nil)⟩)⟩)⟩)⟩)⟩) ?_
        exact ih _ xv zv wv (qq + 1) Is1002 Fs1002 ⟨flu_up hq.1 (by omega) (cnr_upd (upd_ix (by rw [show w = wv by omega]; exact aws1002_8) (by rw [show xv = x by omega])) (by omega) (by omega) (by omega) (by omega)), sam_ts hq.2.1 aws1002_11, sam_ts hq.2.2 aws1002_12⟩ (by first | exact ⟨And.intro (hi.1.1) (And.intro (hi.1.2.1) (And.intro (hi.1.2.2.1) (And.intro (oq_03182e9e hi.1.2.2.2.1) (oq_667557f6 g1001 hi.1.2.1)))), And.intro (hi.2.1.1) (hi.2.1.2), And.intro (hi.2.2.1.1) (hi.2.2.1.2), And.intro (hi.2.2.2.1.1) (hi.2.2.2.1.2), oq_54f49eb5 hi.2.2.2.2.1, oq_3f5436dc g1001 hi.2.2.1.2⟩ | omega) (by first | exact qk_me hm (by decide) (oq_416f5e90 g1001 hi.2.2.1.2) | omega) kx
  refine z_load_n X (x := y) (show cdA 114 0 = some (.iload_n 2, 1, 0, 0, 0) from rfl) (List.Mem.tail _ (List.Mem.tail _ (List.Mem.head _))) ?_
  refine z_store X (lv' := [(5, .int (Int32.ofInt y)), (0, .ref (A 3)), (1, .int (Int32.ofInt x)), (2, .int (Int32.ofInt y)), (3, .int (Int32.ofInt z)), (4, .int (Int32.ofInt w))]) (show cdA 114 1 = some (.istore 5, 2, 0, 0, 0) from rfl) (by decide) (fun _ h => h) ?_
  refine WS_lv (lv := [(0, .ref (A 3)), (1, .int (Int32.ofInt x)), (3, .int (Int32.ofInt z)), (4, .int (Int32.ofInt w)), (5, .int (Int32.ofInt y))]) (List.forall_mem_cons.mpr ⟨(List.Mem.tail _ (List.Mem.head _)), (List.forall_mem_cons.mpr ⟨(List.Mem.tail _ (List.Mem.tail _ (List.Mem.head _))), (List.forall_mem_cons.mpr ⟨(List.Mem.tail _ (List.Mem.tail _ (List.Mem.tail _ (List.Mem.tail _ (List.Mem.head _))))), (List.forall_mem_cons.mpr ⟨(List.Mem.tail _ (List.Mem.tail _ (List.Mem.tail _ (List.Mem.tail _ (List.Mem.tail _ (List.Mem.head _)))))), (List.forall_mem_cons.mpr ⟨(List.Mem.head _), (fun q h => absurd h List.not_mem_nil)⟩)⟩)⟩)⟩)⟩) ?_
  refine L3 ((24 - y : Int).toNat + 1) s x z w y I F ⟨flu_0, sam_rf, sam_rf⟩ (by first | exact ⟨And.intro (by decide) (And.intro (by decide) (And.intro (by decide) (And.intro (by decide) (oq_03182e9e p4)))), And.intro (p0.1) (p0.2), And.intro (p2.1) (p2.2), And.intro (p3.1) (p3.2), p1.1, oq_2fca5ea6 p1.2⟩ | omega) (Nat.lt_succ_self _) ?_
  intro s1 x2 Is1 Fs1 Qs1 hs1
  refine z_aload_n X (x := A 3) (show cdA 114 29 = some (.aload_n 0, 1, 0, 0, 0) from rfl) (List.Mem.head _) ?_
  refine z_load_n X (x := x) (show cdA 114 30 = some (.iload_n 1, 1, 0, 0, 0) from rfl) (List.Mem.tail _ (List.Mem.head _)) ?_
  refine z_callV X 3 (rm := rmN 116) (As := [.int (Int32.ofInt x)]) (st := []) (show cdA 114 31 = some (.invokevirtual 140, 3, 116, 0, 0) from rfl) rfl (by decide) rfl (by rw [E.1, E.2.1, E.2.2.1]; exact c9_retell2 G Is1 (by first | exact ⟨p0.1, p0.2⟩ | omega)) ⟨by rw [E.2.2.2]; exact (show (rmN 116).frames + 1 ≤ (rmN 114).frames by decide), by rw [E.2.2.2]; exact (show 8 + (mNL (miB 116) + 11) + (rmN 116).locals ≤ (rmN 114).locals by decide), by rw [E.2.2.2]; exact (show 0 + (rmN 116).cells ≤ (rmN 114).cells by decide), by rw [E.2.2.2]; exact (show 0 + (rmN 116).slots ≤ (rmN 114).slots by decide)⟩ (Nat.le_of_ble_eq_true rfl) (fun vv s3 hq => ?_) (fun ee s3 hq => ?_)
  rotate_left
  · obtain ⟨Is3, Fs3, hv, hps3⟩ := hq; cases hv
  obtain ⟨Is3, Fs3, hv, hps3⟩ := hq
  cases hv
  have Gs3 := fm_ts Fs1 Fs3 (by decide) (by decide)
  show WS k 34 [(0, .ref (A 3)), (1, .int (Int32.ofInt x)), (3, .int (Int32.ofInt z)), (4, .int (Int32.ofInt w)), (5, .int (Int32.ofInt x2))] [] (Wd A dT s3) 0 0
  exact w_vret X.1 q hRt (ax_d X (show cdA 114 34 = some (.return_, 1, 0, 0, 0) from rfl)) (Nat.zero_le _) (Nat.zero_le _) ⟨_, rfl, Is3, Gs3, rfl, ⟨moi_fl jMOI Qs1.1 Qs1.2.1 Qs1.2.2 (sam_fm Fs1 (by decide)) (sam_fm Fs1 (by decide)) (by rw [show x = x by omega]; exact hps3.1) (by rw [show x = x by omega]; exact hps3.2) (sam_fm Fs3 (by decide)) (sam_fm Fs3 (by decide)) (sam_fm Fs3 (by decide)), (by rw [cnr_sam (sam_fm Fs3 (by decide))]; exact Qs1.1)⟩⟩
set_option maxRecDepth 4000 in
theorem c9_setSpan2 (G : GX l s0 D tys a0 dT) (I : Bd s) (jMOI : MOI s) {x y z : Int} (p0 : 0 ≤ x ∧ x ≤ 11) (p1 : 0 ≤ y ∧ y ≤ 2) (p2 : 0 ≤ z ∧ z ≤ 2) : CT l s0 D A dT 115 (rmN 115) [.ref (A 3), .int (Int32.ofInt x), .int (Int32.ofInt y), .int (Int32.ofInt z)] s (fun o t => Bd t ∧ Fm [] [9, 10, 11, 12, 13, 14] s t ∧ o = .inl none ∧ (MOI t ∧ UPD 9 x y s t ∧ UPD 10 x z s t)) := by
  refine ct_ofX G (by decide) (Nat.le_of_ble_eq_true rfl) (fun k X E ET hRt hXt q => ?_)
  show WS k 0 [(0, .ref (A 3)), (1, .int (Int32.ofInt x)), (2, .int (Int32.ofInt y)), (3, .int (Int32.ofInt z))] [] _ 0 0
  have F : Fm [] [9, 10, 11, 12, 13, 14] s s := fm_rf _ _ s
  have aw0_8 : SAM 8 s s := sam_rf
  have aw0_11 : SAM 11 s s := sam_rf
  have aw0_12 : SAM 12 s s := sam_rf
  have aw0_9 : SAM 9 s s := sam_rf
  have aw0_10 : SAM 10 s s := sam_rf
  refine z_aload_n X (x := A 3) (show cdA 115 0 = some (.aload_n 0, 1, 0, 0, 0) from rfl) (List.Mem.head _) ?_
  refine s_getR X 3 (show cdA 115 1 = some (.getfield 37, 3, 9, 10, 0) from rfl) (by decide) rfl rfl ?_
  refine z_load_n X (x := x) (show cdA 115 4 = some (.iload_n 1, 1, 0, 0, 0) from rfl) (List.Mem.tail _ (List.Mem.head _)) ?_
  refine z_load_n X (x := y) (show cdA 115 5 = some (.iload_n 2, 1, 0, 0, 0) from rfl) (List.Mem.tail _ (List.Mem.tail _ (List.Mem.head _))) ?_
  refine z_ast X 12 (show cdA 115 6 = some (.iastore, 1, 0, 0, 0) from rfl) (by decide) rfl (by first | exact p0.1 | omega) (show x < 12 by first | exact oq_0ddfcfee p0.2 | omega) (by decide) ?_
  obtain ⟨s1, hs1⟩ : ∃ x0, x0 = uC s 9 (x).toNat (Int32.ofInt y) := ⟨_, rfl⟩
  rw [← hs1]
  have Is1 : Bd s1 := by rw [hs1]; exact bd_C I (show (0 : Int) ≤ y ∧ y ≤ 2 by first | exact ⟨p1.1, p1.2⟩ | omega) ⟨by first | exact oq_fa4e5087 p1.1 | omega, by first | exact oq_861e1648 p1.2 | omega⟩
  have Fs1 := fm_C (i := (x).toNat) (x := Int32.ofInt y) F (show 9 ∈ _ by decide)
  rw [← hs1] at Fs1
  have aws1_8 : SAM 8 s s1 := by rw [hs1]; exact sam_C (by decide) aw0_8
  have aws1_11 : SAM 11 s s1 := by rw [hs1]; exact sam_C (by decide) aw0_11
  have aws1_12 : SAM 12 s s1 := by rw [hs1]; exact sam_C (by decide) aw0_12
  have aws1_9 : UPD 9 (x) y s s1 := by rw [hs1]; exact upd_put aw0_9 ⟨by first | exact oq_fa4e5087 p1.1 | omega, by first | exact oq_861e1648 p1.2 | omega⟩
  have aws1_10 : SAM 10 s s1 := by rw [hs1]; exact sam_C (by decide) aw0_10
  refine z_aload_n X (x := A 3) (show cdA 115 7 = some (.aload_n 0, 1, 0, 0, 0) from rfl) (List.Mem.head _) ?_
  refine s_getR X 3 (show cdA 115 8 = some (.getfield 40, 3, 9, 11, 0) from rfl) (by decide) rfl rfl ?_
  refine z_load_n X (x := x) (show cdA 115 11 = some (.iload_n 1, 1, 0, 0, 0) from rfl) (List.Mem.tail _ (List.Mem.head _)) ?_
  refine z_load_n X (x := z) (show cdA 115 12 = some (.iload_n 3, 1, 0, 0, 0) from rfl) (List.Mem.tail _ (List.Mem.tail _ (List.Mem.tail _ (List.Mem.head _)))) ?_
  refine z_ast X 13 (show cdA 115 13 = some (.iastore, 1, 0, 0, 0) from rfl) (by decide) rfl (by first | exact p0.1 | omega) (show x < 12 by first | exact oq_0ddfcfee p0.2 | omega) (by decide) ?_
  obtain ⟨s2, hs2⟩ : ∃ x0, x0 = uC s1 10 (x).toNat (Int32.ofInt z) := ⟨_, rfl⟩
  rw [← hs2]
  have Is2 : Bd s2 := by rw [hs2]; exact bd_C Is1 (show (0 : Int) ≤ z ∧ z ≤ 2 by first | exact ⟨p2.1, p2.2⟩ | omega) ⟨by first | exact oq_fa4e5087 p2.1 | omega, by first | exact oq_861e1648 p2.2 | omega⟩
  have Fs2 := fm_C (i := (x).toNat) (x := Int32.ofInt z) Fs1 (show 10 ∈ _ by decide)
  rw [← hs2] at Fs2
  have aws2_8 : SAM 8 s s2 := by rw [hs2]; exact sam_C (by decide) aws1_8
  have aws2_11 : SAM 11 s s2 := by rw [hs2]; exact sam_C (by decide) aws1_11
  have aws2_12 : SAM 12 s s2 := by rw [hs2]; exact sam_C (by decide) aws1_12
  have aws2_9 : UPD 9 (x) y s s2 := by rw [hs2]; exact upd_C (by decide) aws1_9
  have aws2_10 : UPD 10 (x) z s s2 := by rw [hs2]; exact upd_put aws1_10 ⟨by first | exact oq_fa4e5087 p2.1 | omega, by first | exact oq_861e1648 p2.2 | omega⟩
  refine z_aload_n X (x := A 3) (show cdA 115 14 = some (.aload_n 0, 1, 0, 0, 0) from rfl) (List.Mem.head _) ?_
  refine z_load_n X (x := x) (show cdA 115 15 = some (.iload_n 1, 1, 0, 0, 0) from rfl) (List.Mem.tail _ (List.Mem.head _)) ?_
  refine z_callV X 3 (rm := rmN 116) (As := [.int (Int32.ofInt x)]) (st := []) (show cdA 115 16 = some (.invokevirtual 140, 3, 116, 0, 0) from rfl) rfl (by decide) rfl (by rw [E.1, E.2.1, E.2.2.1]; exact c9_retell2 G Is2 (by first | exact ⟨p0.1, p0.2⟩ | omega)) ⟨by rw [E.2.2.2]; exact (show (rmN 116).frames + 1 ≤ (rmN 115).frames by decide), by rw [E.2.2.2]; exact (show 8 + (mNL (miB 116) + 11) + (rmN 116).locals ≤ (rmN 115).locals by decide), by rw [E.2.2.2]; exact (show 0 + (rmN 116).cells ≤ (rmN 115).cells by decide), by rw [E.2.2.2]; exact (show 0 + (rmN 116).slots ≤ (rmN 115).slots by decide)⟩ (Nat.le_of_ble_eq_true rfl) (fun vv s3 hq => ?_) (fun ee s3 hq => ?_)
  rotate_left
  · obtain ⟨Is3, Fs3, hv, hps3⟩ := hq; cases hv
  obtain ⟨Is3, Fs3, hv, hps3⟩ := hq
  cases hv
  have Gs3 := fm_ts Fs2 Fs3 (by decide) (by decide)
  have aws3_8 : SAM 8 s s3 := sam_ts aws2_8 (sam_fm Fs3 (by decide))
  have aws3_9 : UPD 9 (x) y s s3 := upd_ts aws2_9 (sam_fm Fs3 (by decide))
  have aws3_10 : UPD 10 (x) z s s3 := upd_ts aws2_10 (sam_fm Fs3 (by decide))
  show WS k 19 [(0, .ref (A 3)), (1, .int (Int32.ofInt x)), (2, .int (Int32.ofInt y)), (3, .int (Int32.ofInt z))] [] (Wd A dT s3) 0 0
  exact w_vret X.1 q hRt (ax_d X (show cdA 115 19 = some (.return_, 1, 0, 0, 0) from rfl)) (Nat.zero_le _) (Nat.zero_le _) ⟨_, rfl, Is3, Gs3, rfl, ⟨moi_sp jMOI aws2_8 aws2_11 aws2_12 aws2_9 aws2_10 (by omega) hps3.1 hps3.2 (sam_fm Fs3 (by decide)) (sam_fm Fs3 (by decide)) (sam_fm Fs3 (by decide)), aws3_9, aws3_10⟩⟩
set_option maxRecDepth 4000 in
theorem cs_flow3 (G : GX l s0 D tys a0 dT) (I : Bd s) (jMOI : MOI s) {u v p w : Int} (p0 : rng u) (p1 : rng v) (p2 : rng p) (p3 : rng w) : CT l s0 D A dT 140 (rmN 140) [.ref (A 0), .int (Int32.ofInt u), .int (Int32.ofInt v), .int (Int32.ofInt p), .int (Int32.ofInt w)] s (fun o t => Bd t ∧ Fm [] [8, 11, 12, 13, 14] s t ∧ ((o = .inl none ∧ (0 ≤ u ∧ u < iI s 9 ∧ 0 ≤ v ∧ v ≤ 23 ∧ 0 ≤ p ∧ p ≤ 23 ∧ v ≤ p ∧ 0 ≤ w ∧ w ≤ 50 ∧ MOI t ∧ FLU (CNR s) (CNR t) u v (p + 1) w ∧ SAM 10 s t ∧ SAM 9 s t)) ∨ ∃ x : Nat, o = .inr (exN x) ∧ (((x = 1 ∧ (u < 0 ∨ iI s 9 ≤ u)) ∨ (x = 0 ∧ 0 ≤ u ∧ u < iI s 9 ∧ (v < 0 ∨ 23 < v ∨ p < 0 ∨ 23 < p ∨ p < v ∨ w < 0 ∨ 50 < w))) ∧ SA4 s t))) := by
  refine ct_ofX G (by decide) (Nat.le_of_ble_eq_true rfl) (fun k X E ET hRt hXt q => ?_)
  show WS k 0 [(0, .ref (A 0)), (1, .int (Int32.ofInt u)), (2, .int (Int32.ofInt v)), (3, .int (Int32.ofInt p)), (4, .int (Int32.ofInt w))] [] _ 0 0
  have F : Fm [] [8, 11, 12, 13, 14] s s := fm_rf _ _ s
  have aw0_8 : SAM 8 s s := sam_rf
  have aw0_11 : SAM 11 s s := sam_rf
  have aw0_12 : SAM 12 s s := sam_rf
  have aw0_9 : SAM 9 s s := sam_rf
  have aw0_10 : SAM 10 s s := sam_rf
  have b1 : (0 : Int) ≤ iI s 9 ∧ iI s 9 ≤ 12 := I.1 9
  refine z_aload_n X (x := A 0) (show cdA 140 0 = some (.aload_n 0, 1, 0, 0, 0) from rfl) (List.Mem.head _) ?_
  refine z_load_n X (x := u) (show cdA 140 1 = some (.iload_n 1, 1, 0, 0, 0) from rfl) (List.Mem.tail _ (List.Mem.head _)) ?_
  refine z_callV X 0 (rm := rmN 180) (As := [.int (Int32.ofInt u)]) (st := []) (show cdA 140 2 = some (.invokevirtual 140, 3, 180, 0, 0) from rfl) rfl (by decide) rfl (by rw [E.1, E.2.1, E.2.2.1]; exact cs_needStream2 G I (by first | exact ⟨p0.1, p0.2⟩ | omega)) ⟨by rw [E.2.2.2]; exact (show (rmN 180).frames + 1 ≤ (rmN 140).frames by decide), by rw [E.2.2.2]; exact (show 8 + (mNL (miB 180) + 11) + (rmN 180).locals ≤ (rmN 140).locals by decide), by rw [E.2.2.2]; exact (show 0 + 1 ≤ 5 by omega), by rw [E.2.2.2]; exact (show 0 + 6 ≤ 30 by omega)⟩ (Nat.le_of_ble_eq_true rfl) (fun vv s2 hq => ?_) (fun ee s2 hq => ?_)
  rotate_left
  · obtain ⟨Is2, Fs2, (⟨hv, hps2⟩ | ⟨xx, hv, hps2⟩)⟩ := hq
    · cases hv
    · cases hv
      have Gs2 := fm_ts F Fs2 (by decide) (by decide)
      have JMOI_s2 : MOI s2 := MOI_fm Fs2 (by decide) jMOI
      have ws2_9 : iI s2 9 = iI s 9 := fm_i Fs2 (by decide)
      have aws2_8 : SAM 8 s s2 := sam_ts aw0_8 (sam_fm Fs2 (by decide))
      have aws2_11 : SAM 11 s s2 := sam_ts aw0_11 (sam_fm Fs2 (by decide))
      have aws2_12 : SAM 12 s s2 := sam_ts aw0_12 (sam_fm Fs2 (by decide))
      have aws2_9 : SAM 9 s s2 := sam_ts aw0_9 (sam_fm Fs2 (by decide))
      have aws2_10 : SAM 10 s s2 := sam_ts aw0_10 (sam_fm Fs2 (by decide))
      exact x_out X.1 q (fun x hx => (hXt x hx).elim) (show 1 ≤ 5 by omega) (show 6 ≤ 30 by omega) ⟨_, rfl, Is2, Gs2, Or.inr ⟨xx, rfl, ⟨by omega, ⟨aws2_8, aws2_10, aws2_9, aws2_11, aws2_12⟩⟩⟩⟩
  obtain ⟨Is2, Fs2, (⟨hv, hps2⟩ | ⟨xx, hv, hps2⟩)⟩ := hq
  rotate_left
  · cases hv
  cases hv
  have Gs2 := fm_ts F Fs2 (by decide) (by decide)
  have JMOI_s2 : MOI s2 := MOI_fm Fs2 (by decide) jMOI
  have ws2_9 : iI s2 9 = iI s 9 := fm_i Fs2 (by decide)
  have aws2_8 : SAM 8 s s2 := sam_ts aw0_8 (sam_fm Fs2 (by decide))
  have aws2_11 : SAM 11 s s2 := sam_ts aw0_11 (sam_fm Fs2 (by decide))
  have aws2_12 : SAM 12 s s2 := sam_ts aw0_12 (sam_fm Fs2 (by decide))
  have aws2_9 : SAM 9 s s2 := sam_ts aw0_9 (sam_fm Fs2 (by decide))
  have aws2_10 : SAM 10 s s2 := sam_ts aw0_10 (sam_fm Fs2 (by decide))
  show WS k 5 [(0, .ref (A 0)), (1, .int (Int32.ofInt u)), (2, .int (Int32.ofInt v)), (3, .int (Int32.ofInt p)), (4, .int (Int32.ofInt w))] [] (Wd A dT s2) 1 6
  refine z_aload_n X (x := A 0) (show cdA 140 5 = some (.aload_n 0, 1, 0, 0, 0) from rfl) (List.Mem.head _) ?_
  refine z_load_n X (x := v) (show cdA 140 6 = some (.iload_n 2, 1, 0, 0, 0) from rfl) (List.Mem.tail _ (List.Mem.tail _ (List.Mem.head _))) ?_
  refine z_callV X 0 (rm := rmN 183) (As := [.int (Int32.ofInt v)]) (st := []) (show cdA 140 7 = some (.invokevirtual 148, 3, 183, 0, 0) from rfl) rfl (by decide) rfl (by rw [E.1, E.2.1, E.2.2.1]; exact cs_needQuarter2 G Is2 (by first | exact ⟨p1.1, p1.2⟩ | omega)) ⟨by rw [E.2.2.2]; exact (show (rmN 183).frames + 1 ≤ (rmN 140).frames by decide), by rw [E.2.2.2]; exact (show 8 + (mNL (miB 183) + 11) + (rmN 183).locals ≤ (rmN 140).locals by decide), by rw [E.2.2.2]; exact (show 1 + 1 ≤ 5 by omega), by rw [E.2.2.2]; exact (show 6 + 6 ≤ 30 by omega)⟩ (Nat.le_of_ble_eq_true rfl) (fun vv s4 hq => ?_) (fun ee s4 hq => ?_)
  rotate_left
  · obtain ⟨Is4, Fs4, (⟨hv, hps4⟩ | ⟨xx, hv, hps4⟩)⟩ := hq
    · cases hv
    · cases hv
      have Gs4 := fm_ts Gs2 Fs4 (by decide) (by decide)
      have JMOI_s4 : MOI s4 := MOI_fm Fs4 (by decide) JMOI_s2
      have ws4_9 : iI s4 9 = iI s2 9 := fm_i Fs4 (by decide)
      have aws4_8 : SAM 8 s s4 := sam_ts aws2_8 (sam_fm Fs4 (by decide))
      have aws4_11 : SAM 11 s s4 := sam_ts aws2_11 (sam_fm Fs4 (by decide))
      have aws4_12 : SAM 12 s s4 := sam_ts aws2_12 (sam_fm Fs4 (by decide))
      have aws4_9 : SAM 9 s s4 := sam_ts aws2_9 (sam_fm Fs4 (by decide))
      have aws4_10 : SAM 10 s s4 := sam_ts aws2_10 (sam_fm Fs4 (by decide))
      exact x_out X.1 q (fun x hx => (hXt x hx).elim) (show (1 + 1) ≤ 5 by omega) (show (6 + 6) ≤ 30 by omega) ⟨_, rfl, Is4, Gs4, Or.inr ⟨xx, rfl, ⟨by omega, ⟨aws4_8, aws4_10, aws4_9, aws4_11, aws4_12⟩⟩⟩⟩
  obtain ⟨Is4, Fs4, (⟨hv, hps4⟩ | ⟨xx, hv, hps4⟩)⟩ := hq
  rotate_left
  · cases hv
  cases hv
  have Gs4 := fm_ts Gs2 Fs4 (by decide) (by decide)
  have JMOI_s4 : MOI s4 := MOI_fm Fs4 (by decide) JMOI_s2
  have ws4_9 : iI s4 9 = iI s2 9 := fm_i Fs4 (by decide)
  have aws4_8 : SAM 8 s s4 := sam_ts aws2_8 (sam_fm Fs4 (by decide))
  have aws4_11 : SAM 11 s s4 := sam_ts aws2_11 (sam_fm Fs4 (by decide))
  have aws4_12 : SAM 12 s s4 := sam_ts aws2_12 (sam_fm Fs4 (by decide))
  have aws4_9 : SAM 9 s s4 := sam_ts aws2_9 (sam_fm Fs4 (by decide))
  have aws4_10 : SAM 10 s s4 := sam_ts aws2_10 (sam_fm Fs4 (by decide))
  show WS k 10 [(0, .ref (A 0)), (1, .int (Int32.ofInt u)), (2, .int (Int32.ofInt v)), (3, .int (Int32.ofInt p)), (4, .int (Int32.ofInt w))] [] (Wd A dT s4) (1 + 1) (6 + 6)
  refine z_aload_n X (x := A 0) (show cdA 140 10 = some (.aload_n 0, 1, 0, 0, 0) from rfl) (List.Mem.head _) ?_
  refine z_load_n X (x := p) (show cdA 140 11 = some (.iload_n 3, 1, 0, 0, 0) from rfl) (List.Mem.tail _ (List.Mem.tail _ (List.Mem.tail _ (List.Mem.head _)))) ?_
  refine z_callV X 0 (rm := rmN 183) (As := [.int (Int32.ofInt p)]) (st := []) (show cdA 140 12 = some (.invokevirtual 148, 3, 183, 0, 0) from rfl) rfl (by decide) rfl (by rw [E.1, E.2.1, E.2.2.1]; exact cs_needQuarter2 G Is4 (by first | exact ⟨p2.1, p2.2⟩ | omega)) ⟨by rw [E.2.2.2]; exact (show (rmN 183).frames + 1 ≤ (rmN 140).frames by decide), by rw [E.2.2.2]; exact (show 8 + (mNL (miB 183) + 11) + (rmN 183).locals ≤ (rmN 140).locals by decide), by rw [E.2.2.2]; exact (show (1 + 1) + 1 ≤ 5 by omega), by rw [E.2.2.2]; exact (show (6 + 6) + 6 ≤ 30 by omega)⟩ (Nat.le_of_ble_eq_true rfl) (fun vv s6 hq => ?_) (fun ee s6 hq => ?_)
  rotate_left
  · obtain ⟨Is6, Fs6, (⟨hv, hps6⟩ | ⟨xx, hv, hps6⟩)⟩ := hq
    · cases hv
    · cases hv
      have Gs6 := fm_ts Gs4 Fs6 (by decide) (by decide)
      have JMOI_s6 : MOI s6 := MOI_fm Fs6 (by decide) JMOI_s4
      have ws6_9 : iI s6 9 = iI s4 9 := fm_i Fs6 (by decide)
      have aws6_8 : SAM 8 s s6 := sam_ts aws4_8 (sam_fm Fs6 (by decide))
      have aws6_11 : SAM 11 s s6 := sam_ts aws4_11 (sam_fm Fs6 (by decide))
      have aws6_12 : SAM 12 s s6 := sam_ts aws4_12 (sam_fm Fs6 (by decide))
      have aws6_9 : SAM 9 s s6 := sam_ts aws4_9 (sam_fm Fs6 (by decide))
      have aws6_10 : SAM 10 s s6 := sam_ts aws4_10 (sam_fm Fs6 (by decide))
      exact x_out X.1 q (fun x hx => (hXt x hx).elim) (show ((1 + 1) + 1) ≤ 5 by omega) (show ((6 + 6) + 6) ≤ 30 by omega) ⟨_, rfl, Is6, Gs6, Or.inr ⟨xx, rfl, ⟨by omega, ⟨aws6_8, aws6_10, aws6_9, aws6_11, aws6_12⟩⟩⟩⟩
  obtain ⟨Is6, Fs6, (⟨hv, hps6⟩ | ⟨xx, hv, hps6⟩)⟩ := hq
  rotate_left
  · cases hv
  cases hv
  have Gs6 := fm_ts Gs4 Fs6 (by decide) (by decide)
  have JMOI_s6 : MOI s6 := MOI_fm Fs6 (by decide) JMOI_s4
  have ws6_9 : iI s6 9 = iI s4 9 := fm_i Fs6 (by decide)
  have aws6_8 : SAM 8 s s6 := sam_ts aws4_8 (sam_fm Fs6 (by decide))
  have aws6_11 : SAM 11 s s6 := sam_ts aws4_11 (sam_fm Fs6 (by decide))
  have aws6_12 : SAM 12 s s6 := sam_ts aws4_12 (sam_fm Fs6 (by decide))
  have aws6_9 : SAM 9 s s6 := sam_ts aws4_9 (sam_fm Fs6 (by decide))
  have aws6_10 : SAM 10 s s6 := sam_ts aws4_10 (sam_fm Fs6 (by decide))
  show WS k 15 [(0, .ref (A 0)), (1, .int (Int32.ofInt u)), (2, .int (Int32.ofInt v)), (3, .int (Int32.ofInt p)), (4, .int (Int32.ofInt w))] [] (Wd A dT s6) ((1 + 1) + 1) ((6 + 6) + 6)
  refine z_aload_n X (x := A 0) (show cdA 140 15 = some (.aload_n 0, 1, 0, 0, 0) from rfl) (List.Mem.head _) ?_
  refine z_load X (x := w) (show cdA 140 16 = some (.iload 4, 2, 0, 0, 0) from rfl) (List.Mem.tail _ (List.Mem.tail _ (List.Mem.tail _ (List.Mem.tail _ (List.Mem.head _))))) ?_
  refine z_const X (show cdA 140 18 = some (.iconst 0, 1, 0, 0, 0) from rfl) ?_
  refine z_bipush X (show cdA 140 19 = some (.bipush 50, 2, 0, 0, 50) from rfl) ?_
  refine z_callV X 0 (rm := rmN 184) (As := [.int (Int32.ofInt w), .int (Int32.ofInt 0), .int (Int32.ofInt 50)]) (st := []) (show cdA 140 21 = some (.invokevirtual 151, 3, 184, 0, 0) from rfl) rfl (by decide) rfl (by rw [E.1, E.2.1, E.2.2.1]; exact cs_needWithin2 G Is6 (by first | exact ⟨p3.1, p3.2⟩ | omega) (by first | exact ⟨by decide, by decide⟩ | omega) (by first | exact ⟨by decide, by decide⟩ | omega)) ⟨by rw [E.2.2.2]; exact (show (rmN 184).frames + 1 ≤ (rmN 140).frames by decide), by rw [E.2.2.2]; exact (show 8 + (mNL (miB 184) + 11) + (rmN 184).locals ≤ (rmN 140).locals by decide), by rw [E.2.2.2]; exact (show ((1 + 1) + 1) + 1 ≤ 5 by omega), by rw [E.2.2.2]; exact (show ((6 + 6) + 6) + 6 ≤ 30 by omega)⟩ (Nat.le_of_ble_eq_true rfl) (fun vv s8 hq => ?_) (fun ee s8 hq => ?_)
  rotate_left
  · obtain ⟨Is8, Fs8, (⟨hv, hps8⟩ | ⟨xx, hv, hps8⟩)⟩ := hq
    · cases hv
    · cases hv
      have Gs8 := fm_ts Gs6 Fs8 (by decide) (by decide)
      have JMOI_s8 : MOI s8 := MOI_fm Fs8 (by decide) JMOI_s6
      have ws8_9 : iI s8 9 = iI s6 9 := fm_i Fs8 (by decide)
      have aws8_8 : SAM 8 s s8 := sam_ts aws6_8 (sam_fm Fs8 (by decide))
      have aws8_11 : SAM 11 s s8 := sam_ts aws6_11 (sam_fm Fs8 (by decide))
      have aws8_12 : SAM 12 s s8 := sam_ts aws6_12 (sam_fm Fs8 (by decide))
      have aws8_9 : SAM 9 s s8 := sam_ts aws6_9 (sam_fm Fs8 (by decide))
      have aws8_10 : SAM 10 s s8 := sam_ts aws6_10 (sam_fm Fs8 (by decide))
      exact x_out X.1 q (fun x hx => (hXt x hx).elim) (show (((1 + 1) + 1) + 1) ≤ 5 by omega) (show (((6 + 6) + 6) + 6) ≤ 30 by omega) ⟨_, rfl, Is8, Gs8, Or.inr ⟨xx, rfl, ⟨by omega, ⟨aws8_8, aws8_10, aws8_9, aws8_11, aws8_12⟩⟩⟩⟩
  obtain ⟨Is8, Fs8, (⟨hv, hps8⟩ | ⟨xx, hv, hps8⟩)⟩ := hq
  rotate_left
  · cases hv
  cases hv
  have Gs8 := fm_ts Gs6 Fs8 (by decide) (by decide)
  have JMOI_s8 : MOI s8 := MOI_fm Fs8 (by decide) JMOI_s6
  have ws8_9 : iI s8 9 = iI s6 9 := fm_i Fs8 (by decide)
  have aws8_8 : SAM 8 s s8 := sam_ts aws6_8 (sam_fm Fs8 (by decide))
  have aws8_11 : SAM 11 s s8 := sam_ts aws6_11 (sam_fm Fs8 (by decide))
  have aws8_12 : SAM 12 s s8 := sam_ts aws6_12 (sam_fm Fs8 (by decide))
  have aws8_9 : SAM 9 s s8 := sam_ts aws6_9 (sam_fm Fs8 (by decide))
  have aws8_10 : SAM 10 s s8 := sam_ts aws6_10 (sam_fm Fs8 (by decide))
  show WS k 24 [(0, .ref (A 0)), (1, .int (Int32.ofInt u)), (2, .int (Int32.ofInt v)), (3, .int (Int32.ofInt p)), (4, .int (Int32.ofInt w))] [] (Wd A dT s8) (((1 + 1) + 1) + 1) (((6 + 6) + 6) + 6)
  refine z_load_n X (x := v) (show cdA 140 24 = some (.iload_n 2, 1, 0, 0, 0) from rfl) (List.Mem.tail _ (List.Mem.tail _ (List.Mem.head _))) ?_
  refine z_load_n X (x := p) (show cdA 140 25 = some (.iload_n 3, 1, 0, 0, 0) from rfl) (List.Mem.tail _ (List.Mem.tail _ (List.Mem.tail _ (List.Mem.head _)))) ?_
  refine z_icmp_le X (t := 39) (show cdA 140 26 = some (.if_icmp .le 13, 3, 5, 0, 0) from rfl) (by decide) ⟨by first | exact p1.1 | omega, by first | exact p1.2 | omega⟩ ⟨by first | exact p2.1 | omega, by first | exact p2.2 | omega⟩ (fun g10 => ?_) (fun g10 => ?_)
  ·
    refine z_aload_n X (x := A 0) (show cdA 140 39 = some (.aload_n 0, 1, 0, 0, 0) from rfl) (List.Mem.head _) ?_
    refine s_getR X 0 (show cdA 140 40 = some (.getfield 19, 3, 11, 1, 0) from rfl) (by decide) rfl rfl ?_
    refine z_load_n X (x := u) (show cdA 140 43 = some (.iload_n 1, 1, 0, 0, 0) from rfl) (List.Mem.tail _ (List.Mem.head _)) ?_
    refine z_load_n X (x := v) (show cdA 140 44 = some (.iload_n 2, 1, 0, 0, 0) from rfl) (List.Mem.tail _ (List.Mem.tail _ (List.Mem.head _))) ?_
    refine z_load_n X (x := p) (show cdA 140 45 = some (.iload_n 3, 1, 0, 0, 0) from rfl) (List.Mem.tail _ (List.Mem.tail _ (List.Mem.tail _ (List.Mem.head _)))) ?_
    refine z_load X (x := w) (show cdA 140 46 = some (.iload 4, 2, 0, 0, 0) from rfl) (List.Mem.tail _ (List.Mem.tail _ (List.Mem.tail _ (List.Mem.tail _ (List.Mem.head _))))) ?_
    refine z_callV X 3 (rm := rmN 114) (As := [.int (Int32.ofInt u), .int (Int32.ofInt v), .int (Int32.ofInt p), .int (Int32.ofInt w)]) (st := []) (show cdA 140 48 = some (.invokevirtual 157, 3, 114, 0, 0) from rfl) rfl (by decide) rfl (by rw [E.1, E.2.1, E.2.2.1]; exact c9_setCounts2 G Is8 JMOI_s8 (by first | exact ⟨hps2.1, oq_e4d7f3c5 hps2.2 b1.2⟩ | omega) (by first | exact ⟨hps4.1, hps4.2⟩ | omega) (by first | exact ⟨hps6.1, hps6.2⟩ | omega) (by first | exact ⟨hps8.1, hps8.2⟩ | omega) (by first | exact g10 | omega)) ⟨by rw [E.2.2.2]; exact (show (rmN 114).frames + 1 ≤ (rmN 140).frames by decide), by rw [E.2.2.2]; exact (show 8 + (mNL (miB 114) + 11) + (rmN 114).locals ≤ (rmN 140).locals by decide), by rw [E.2.2.2]; exact (show (((1 + 1) + 1) + 1) + 0 ≤ 5 by omega), by rw [E.2.2.2]; exact (show (((6 + 6) + 6) + 6) + 0 ≤ 30 by omega)⟩ (Nat.le_of_ble_eq_true rfl) (fun vv s11 hq => ?_) (fun ee s11 hq => ?_)
    rotate_left
    · obtain ⟨Is11, Fs11, hv, hps11⟩ := hq; cases hv
    obtain ⟨Is11, Fs11, hv, hps11⟩ := hq
    cases hv
    have Gs11 := fm_ts Gs8 Fs11 (by decide) (by decide)
    have ws11_9 : iI s11 9 = iI s8 9 := fm_i Fs11 (by decide)
    have aws11_9 : SAM 9 s s11 := sam_ts aws8_9 (sam_fm Fs11 (by decide))
    have aws11_10 : SAM 10 s s11 := sam_ts aws8_10 (sam_fm Fs11 (by decide))
    show WS k 51 [(0, .ref (A 0)), (1, .int (Int32.ofInt u)), (2, .int (Int32.ofInt v)), (3, .int (Int32.ofInt p)), (4, .int (Int32.ofInt w))] [] (Wd A dT s11) (((1 + 1) + 1) + 1) (((6 + 6) + 6) + 6)
    exact w_vret X.1 q hRt (ax_d X (show cdA 140 51 = some (.return_, 1, 0, 0, 0) from rfl)) (show (((1 + 1) + 1) + 1) ≤ 5 by omega) (show (((6 + 6) + 6) + 6) ≤ 30 by omega) ⟨_, rfl, Is11, Gs11, Or.inl ⟨rfl, ⟨by first | exact hps2.1 | omega, by first | exact hps2.2 | omega, by first | exact hps4.1 | omega, by first | exact hps4.2 | omega, by first | exact hps6.1 | omega, by first | exact hps6.2 | omega, by first | exact g10 | omega, by first | exact hps8.1 | omega, by first | exact hps8.2 | omega, hps11.1, by rw [← cnr_sam aws8_8]; exact hps11.2, aws11_10, aws11_9⟩⟩⟩
  ·
    exact z_throw G X E ET hXt q (st := []) (show cdA 140 29 = some (.new 108, 3, 0, 1, 0) from rfl) (by decide) (by decide) (Nat.le_of_ble_eq_true rfl) (show (((1 + 1) + 1) + 1) + 1 ≤ 5 by omega) (show (((6 + 6) + 6) + 6) + 6 ≤ 30 by omega) (show (((1 + 1) + 1) + 1) + 1 ≤ 5 by omega) (show (((6 + 6) + 6) + 6) + 6 ≤ 30 by omega) ⟨_, rfl, Is8, Gs8, Or.inr ⟨0, rfl, ⟨by omega, ⟨aws8_8, aws8_10, aws8_9, aws8_11, aws8_12⟩⟩⟩⟩
set_option maxRecDepth 4000 in
theorem cs_span3 (G : GX l s0 D tys a0 dT) (I : Bd s) (jMOI : MOI s) {u y z : Int} (p0 : rng u) (p1 : rng y) (p2 : rng z) : CT l s0 D A dT 141 (rmN 141) [.ref (A 0), .int (Int32.ofInt u), .int (Int32.ofInt y), .int (Int32.ofInt z)] s (fun o t => Bd t ∧ Fm [] [9, 10, 11, 12, 13, 14] s t ∧ ((o = .inl none ∧ (0 ≤ u ∧ u < iI s 9 ∧ 0 ≤ y ∧ y ≤ 2 ∧ 0 ≤ z ∧ z ≤ 2 ∧ MOI t ∧ UPD 9 u y s t ∧ UPD 10 u z s t ∧ SAM 8 s t)) ∨ ∃ x : Nat, o = .inr (exN x) ∧ (((x = 1 ∧ (u < 0 ∨ iI s 9 ≤ u)) ∨ (x = 0 ∧ 0 ≤ u ∧ u < iI s 9 ∧ (y < 0 ∨ 2 < y ∨ z < 0 ∨ 2 < z))) ∧ SA4 s t))) := by
  refine ct_ofX G (by decide) (Nat.le_of_ble_eq_true rfl) (fun k X E ET hRt hXt q => ?_)
  show WS k 0 [(0, .ref (A 0)), (1, .int (Int32.ofInt u)), (2, .int (Int32.ofInt y)), (3, .int (Int32.ofInt z))] [] _ 0 0
  have F : Fm [] [9, 10, 11, 12, 13, 14] s s := fm_rf _ _ s
  have aw0_8 : SAM 8 s s := sam_rf
  have aw0_11 : SAM 11 s s := sam_rf
  have aw0_12 : SAM 12 s s := sam_rf
  have aw0_9 : SAM 9 s s := sam_rf
  have aw0_10 : SAM 10 s s := sam_rf
  have b1 : (0 : Int) ≤ iI s 9 ∧ iI s 9 ≤ 12 := I.1 9
  refine z_aload_n X (x := A 0) (show cdA 141 0 = some (.aload_n 0, 1, 0, 0, 0) from rfl) (List.Mem.head _) ?_
  refine z_load_n X (x := u) (show cdA 141 1 = some (.iload_n 1, 1, 0, 0, 0) from rfl) (List.Mem.tail _ (List.Mem.head _)) ?_
  refine z_callV X 0 (rm := rmN 180) (As := [.int (Int32.ofInt u)]) (st := []) (show cdA 141 2 = some (.invokevirtual 140, 3, 180, 0, 0) from rfl) rfl (by decide) rfl (by rw [E.1, E.2.1, E.2.2.1]; exact cs_needStream2 G I (by first | exact ⟨p0.1, p0.2⟩ | omega)) ⟨by rw [E.2.2.2]; exact (show (rmN 180).frames + 1 ≤ (rmN 141).frames by decide), by rw [E.2.2.2]; exact (show 8 + (mNL (miB 180) + 11) + (rmN 180).locals ≤ (rmN 141).locals by decide), by rw [E.2.2.2]; exact (show 0 + 1 ≤ 3 by omega), by rw [E.2.2.2]; exact (show 0 + 6 ≤ 18 by omega)⟩ (Nat.le_of_ble_eq_true rfl) (fun vv s2 hq => ?_) (fun ee s2 hq => ?_)
  rotate_left
  · obtain ⟨Is2, Fs2, (⟨hv, hps2⟩ | ⟨xx, hv, hps2⟩)⟩ := hq
    · cases hv
    · cases hv
      have Gs2 := fm_ts F Fs2 (by decide) (by decide)
      have JMOI_s2 : MOI s2 := MOI_fm Fs2 (by decide) jMOI
      have ws2_9 : iI s2 9 = iI s 9 := fm_i Fs2 (by decide)
      have aws2_8 : SAM 8 s s2 := sam_ts aw0_8 (sam_fm Fs2 (by decide))
      have aws2_11 : SAM 11 s s2 := sam_ts aw0_11 (sam_fm Fs2 (by decide))
      have aws2_12 : SAM 12 s s2 := sam_ts aw0_12 (sam_fm Fs2 (by decide))
      have aws2_9 : SAM 9 s s2 := sam_ts aw0_9 (sam_fm Fs2 (by decide))
      have aws2_10 : SAM 10 s s2 := sam_ts aw0_10 (sam_fm Fs2 (by decide))
      exact x_out X.1 q (fun x hx => (hXt x hx).elim) (show 1 ≤ 3 by omega) (show 6 ≤ 18 by omega) ⟨_, rfl, Is2, Gs2, Or.inr ⟨xx, rfl, ⟨by omega, ⟨aws2_8, aws2_10, aws2_9, aws2_11, aws2_12⟩⟩⟩⟩
  obtain ⟨Is2, Fs2, (⟨hv, hps2⟩ | ⟨xx, hv, hps2⟩)⟩ := hq
  rotate_left
  · cases hv
  cases hv
  have Gs2 := fm_ts F Fs2 (by decide) (by decide)
  have JMOI_s2 : MOI s2 := MOI_fm Fs2 (by decide) jMOI
  have ws2_9 : iI s2 9 = iI s 9 := fm_i Fs2 (by decide)
  have aws2_8 : SAM 8 s s2 := sam_ts aw0_8 (sam_fm Fs2 (by decide))
  have aws2_11 : SAM 11 s s2 := sam_ts aw0_11 (sam_fm Fs2 (by decide))
  have aws2_12 : SAM 12 s s2 := sam_ts aw0_12 (sam_fm Fs2 (by decide))
  have aws2_9 : SAM 9 s s2 := sam_ts aw0_9 (sam_fm Fs2 (by decide))
  have aws2_10 : SAM 10 s s2 := sam_ts aw0_10 (sam_fm Fs2 (by decide))
  show WS k 5 [(0, .ref (A 0)), (1, .int (Int32.ofInt u)), (2, .int (Int32.ofInt y)), (3, .int (Int32.ofInt z))] [] (Wd A dT s2) 1 6
  refine z_aload_n X (x := A 0) (show cdA 141 5 = some (.aload_n 0, 1, 0, 0, 0) from rfl) (List.Mem.head _) ?_
  refine z_load_n X (x := y) (show cdA 141 6 = some (.iload_n 2, 1, 0, 0, 0) from rfl) (List.Mem.tail _ (List.Mem.tail _ (List.Mem.head _))) ?_
  refine z_const X (show cdA 141 7 = some (.iconst 0, 1, 0, 0, 0) from rfl) ?_
  refine z_const X (show cdA 141 8 = some (.iconst 2, 1, 0, 0, 0) from rfl) ?_
  refine z_callV X 0 (rm := rmN 184) (As := [.int (Int32.ofInt y), .int (Int32.ofInt 0), .int (Int32.ofInt 2)]) (st := []) (show cdA 141 9 = some (.invokevirtual 151, 3, 184, 0, 0) from rfl) rfl (by decide) rfl (by rw [E.1, E.2.1, E.2.2.1]; exact cs_needWithin2 G Is2 (by first | exact ⟨p1.1, p1.2⟩ | omega) (by first | exact ⟨by decide, by decide⟩ | omega) (by first | exact ⟨by decide, by decide⟩ | omega)) ⟨by rw [E.2.2.2]; exact (show (rmN 184).frames + 1 ≤ (rmN 141).frames by decide), by rw [E.2.2.2]; exact (show 8 + (mNL (miB 184) + 11) + (rmN 184).locals ≤ (rmN 141).locals by decide), by rw [E.2.2.2]; exact (show 1 + 1 ≤ 3 by omega), by rw [E.2.2.2]; exact (show 6 + 6 ≤ 18 by omega)⟩ (Nat.le_of_ble_eq_true rfl) (fun vv s4 hq => ?_) (fun ee s4 hq => ?_)
  rotate_left
  · obtain ⟨Is4, Fs4, (⟨hv, hps4⟩ | ⟨xx, hv, hps4⟩)⟩ := hq
    · cases hv
    · cases hv
      have Gs4 := fm_ts Gs2 Fs4 (by decide) (by decide)
      have JMOI_s4 : MOI s4 := MOI_fm Fs4 (by decide) JMOI_s2
      have ws4_9 : iI s4 9 = iI s2 9 := fm_i Fs4 (by decide)
      have aws4_8 : SAM 8 s s4 := sam_ts aws2_8 (sam_fm Fs4 (by decide))
      have aws4_11 : SAM 11 s s4 := sam_ts aws2_11 (sam_fm Fs4 (by decide))
      have aws4_12 : SAM 12 s s4 := sam_ts aws2_12 (sam_fm Fs4 (by decide))
      have aws4_9 : SAM 9 s s4 := sam_ts aws2_9 (sam_fm Fs4 (by decide))
      have aws4_10 : SAM 10 s s4 := sam_ts aws2_10 (sam_fm Fs4 (by decide))
      exact x_out X.1 q (fun x hx => (hXt x hx).elim) (show (1 + 1) ≤ 3 by omega) (show (6 + 6) ≤ 18 by omega) ⟨_, rfl, Is4, Gs4, Or.inr ⟨xx, rfl, ⟨by omega, ⟨aws4_8, aws4_10, aws4_9, aws4_11, aws4_12⟩⟩⟩⟩
  obtain ⟨Is4, Fs4, (⟨hv, hps4⟩ | ⟨xx, hv, hps4⟩)⟩ := hq
  rotate_left
  · cases hv
  cases hv
  have Gs4 := fm_ts Gs2 Fs4 (by decide) (by decide)
  have JMOI_s4 : MOI s4 := MOI_fm Fs4 (by decide) JMOI_s2
  have ws4_9 : iI s4 9 = iI s2 9 := fm_i Fs4 (by decide)
  have aws4_8 : SAM 8 s s4 := sam_ts aws2_8 (sam_fm Fs4 (by decide))
  have aws4_11 : SAM 11 s s4 := sam_ts aws2_11 (sam_fm Fs4 (by decide))
  have aws4_12 : SAM 12 s s4 := sam_ts aws2_12 (sam_fm Fs4 (by decide))
  have aws4_9 : SAM 9 s s4 := sam_ts aws2_9 (sam_fm Fs4 (by decide))
  have aws4_10 : SAM 10 s s4 := sam_ts aws2_10 (sam_fm Fs4 (by decide))
  show WS k 12 [(0, .ref (A 0)), (1, .int (Int32.ofInt u)), (2, .int (Int32.ofInt y)), (3, .int (Int32.ofInt z))] [] (Wd A dT s4) (1 + 1) (6 + 6)
  refine z_aload_n X (x := A 0) (show cdA 141 12 = some (.aload_n 0, 1, 0, 0, 0) from rfl) (List.Mem.head _) ?_
  refine z_load_n X (x := z) (show cdA 141 13 = some (.iload_n 3, 1, 0, 0, 0) from rfl) (List.Mem.tail _ (List.Mem.tail _ (List.Mem.tail _ (List.Mem.head _)))) ?_
  refine z_const X (show cdA 141 14 = some (.iconst 0, 1, 0, 0, 0) from rfl) ?_
  refine z_const X (show cdA 141 15 = some (.iconst 2, 1, 0, 0, 0) from rfl) ?_
  refine z_callV X 0 (rm := rmN 184) (As := [.int (Int32.ofInt z), .int (Int32.ofInt 0), .int (Int32.ofInt 2)]) (st := []) (show cdA 141 16 = some (.invokevirtual 151, 3, 184, 0, 0) from rfl) rfl (by decide) rfl (by rw [E.1, E.2.1, E.2.2.1]; exact cs_needWithin2 G Is4 (by first | exact ⟨p2.1, p2.2⟩ | omega) (by first | exact ⟨by decide, by decide⟩ | omega) (by first | exact ⟨by decide, by decide⟩ | omega)) ⟨by rw [E.2.2.2]; exact (show (rmN 184).frames + 1 ≤ (rmN 141).frames by decide), by rw [E.2.2.2]; exact (show 8 + (mNL (miB 184) + 11) + (rmN 184).locals ≤ (rmN 141).locals by decide), by rw [E.2.2.2]; exact (show (1 + 1) + 1 ≤ 3 by omega), by rw [E.2.2.2]; exact (show (6 + 6) + 6 ≤ 18 by omega)⟩ (Nat.le_of_ble_eq_true rfl) (fun vv s6 hq => ?_) (fun ee s6 hq => ?_)
  rotate_left
  · obtain ⟨Is6, Fs6, (⟨hv, hps6⟩ | ⟨xx, hv, hps6⟩)⟩ := hq
    · cases hv
    · cases hv
      have Gs6 := fm_ts Gs4 Fs6 (by decide) (by decide)
      have JMOI_s6 : MOI s6 := MOI_fm Fs6 (by decide) JMOI_s4
      have ws6_9 : iI s6 9 = iI s4 9 := fm_i Fs6 (by decide)
      have aws6_8 : SAM 8 s s6 := sam_ts aws4_8 (sam_fm Fs6 (by decide))
      have aws6_11 : SAM 11 s s6 := sam_ts aws4_11 (sam_fm Fs6 (by decide))
      have aws6_12 : SAM 12 s s6 := sam_ts aws4_12 (sam_fm Fs6 (by decide))
      have aws6_9 : SAM 9 s s6 := sam_ts aws4_9 (sam_fm Fs6 (by decide))
      have aws6_10 : SAM 10 s s6 := sam_ts aws4_10 (sam_fm Fs6 (by decide))
      exact x_out X.1 q (fun x hx => (hXt x hx).elim) (show ((1 + 1) + 1) ≤ 3 by omega) (show ((6 + 6) + 6) ≤ 18 by omega) ⟨_, rfl, Is6, Gs6, Or.inr ⟨xx, rfl, ⟨by omega, ⟨aws6_8, aws6_10, aws6_9, aws6_11, aws6_12⟩⟩⟩⟩
  obtain ⟨Is6, Fs6, (⟨hv, hps6⟩ | ⟨xx, hv, hps6⟩)⟩ := hq
  rotate_left
  · cases hv
  cases hv
  have Gs6 := fm_ts Gs4 Fs6 (by decide) (by decide)
  have JMOI_s6 : MOI s6 := MOI_fm Fs6 (by decide) JMOI_s4
  have ws6_9 : iI s6 9 = iI s4 9 := fm_i Fs6 (by decide)
  have aws6_8 : SAM 8 s s6 := sam_ts aws4_8 (sam_fm Fs6 (by decide))
  have aws6_11 : SAM 11 s s6 := sam_ts aws4_11 (sam_fm Fs6 (by decide))
  have aws6_12 : SAM 12 s s6 := sam_ts aws4_12 (sam_fm Fs6 (by decide))
  have aws6_9 : SAM 9 s s6 := sam_ts aws4_9 (sam_fm Fs6 (by decide))
  have aws6_10 : SAM 10 s s6 := sam_ts aws4_10 (sam_fm Fs6 (by decide))
  show WS k 19 [(0, .ref (A 0)), (1, .int (Int32.ofInt u)), (2, .int (Int32.ofInt y)), (3, .int (Int32.ofInt z))] [] (Wd A dT s6) ((1 + 1) + 1) ((6 + 6) + 6)
  refine z_aload_n X (x := A 0) (show cdA 141 19 = some (.aload_n 0, 1, 0, 0, 0) from rfl) (List.Mem.head _) ?_
  refine s_getR X 0 (show cdA 141 20 = some (.getfield 19, 3, 11, 1, 0) from rfl) (by decide) rfl rfl ?_
  refine z_load_n X (x := u) (show cdA 141 23 = some (.iload_n 1, 1, 0, 0, 0) from rfl) (List.Mem.tail _ (List.Mem.head _)) ?_
  refine z_load_n X (x := y) (show cdA 141 24 = some (.iload_n 2, 1, 0, 0, 0) from rfl) (List.Mem.tail _ (List.Mem.tail _ (List.Mem.head _))) ?_
  refine z_load_n X (x := z) (show cdA 141 25 = some (.iload_n 3, 1, 0, 0, 0) from rfl) (List.Mem.tail _ (List.Mem.tail _ (List.Mem.tail _ (List.Mem.head _)))) ?_
  refine z_callV X 3 (rm := rmN 115) (As := [.int (Int32.ofInt u), .int (Int32.ofInt y), .int (Int32.ofInt z)]) (st := []) (show cdA 141 26 = some (.invokevirtual 161, 3, 115, 0, 0) from rfl) rfl (by decide) rfl (by rw [E.1, E.2.1, E.2.2.1]; exact c9_setSpan2 G Is6 JMOI_s6 (by first | exact ⟨hps2.1, oq_e4d7f3c5 hps2.2 b1.2⟩ | omega) (by first | exact ⟨hps4.1, hps4.2⟩ | omega) (by first | exact ⟨hps6.1, hps6.2⟩ | omega)) ⟨by rw [E.2.2.2]; exact (show (rmN 115).frames + 1 ≤ (rmN 141).frames by decide), by rw [E.2.2.2]; exact (show 8 + (mNL (miB 115) + 11) + (rmN 115).locals ≤ (rmN 141).locals by decide), by rw [E.2.2.2]; exact (show ((1 + 1) + 1) + 0 ≤ 3 by omega), by rw [E.2.2.2]; exact (show ((6 + 6) + 6) + 0 ≤ 18 by omega)⟩ (Nat.le_of_ble_eq_true rfl) (fun vv s8 hq => ?_) (fun ee s8 hq => ?_)
  rotate_left
  · obtain ⟨Is8, Fs8, hv, hps8⟩ := hq; cases hv
  obtain ⟨Is8, Fs8, hv, hps8⟩ := hq
  cases hv
  have Gs8 := fm_ts Gs6 Fs8 (by decide) (by decide)
  have ws8_9 : iI s8 9 = iI s6 9 := fm_i Fs8 (by decide)
  have aws8_8 : SAM 8 s s8 := sam_ts aws6_8 (sam_fm Fs8 (by decide))
  show WS k 29 [(0, .ref (A 0)), (1, .int (Int32.ofInt u)), (2, .int (Int32.ofInt y)), (3, .int (Int32.ofInt z))] [] (Wd A dT s8) ((1 + 1) + 1) ((6 + 6) + 6)
  exact w_vret X.1 q hRt (ax_d X (show cdA 141 29 = some (.return_, 1, 0, 0, 0) from rfl)) (show ((1 + 1) + 1) ≤ 3 by omega) (show ((6 + 6) + 6) ≤ 18 by omega) ⟨_, rfl, Is8, Gs8, Or.inl ⟨rfl, ⟨by first | exact hps2.1 | omega, by first | exact hps2.2 | omega, by first | exact hps4.1 | omega, by first | exact hps4.2 | omega, by first | exact hps6.1 | omega, by first | exact hps6.2 | omega, hps8.1, upd_st aws6_9 hps8.2.1, upd_st aws6_10 hps8.2.2, aws8_8⟩⟩⟩
set_option maxRecDepth 4000 in
theorem cs_most2 (G : GX l s0 D tys a0 dT) (I : Bd s) {u v : Int} (p0 : rng u) (p1 : rng v) : CT l s0 D A dT 142 (rmN 142) [.ref (A 0), .int (Int32.ofInt u), .int (Int32.ofInt v)] s (fun o t => Bd t ∧ Fm [] [] s t ∧ ((∃ e, o = .inl (some (.int (Int32.ofInt e))) ∧ rng e ∧ (0 ≤ u ∧ u < iI s 9 ∧ 0 ≤ v ∧ v ≤ 23 ∧ e = iC s 11 (v * 12 + u).toNat)) ∨ ∃ x : Nat, o = .inr (exN x) ∧ (((x = 1 ∧ (u < 0 ∨ iI s 9 ≤ u)) ∨ (x = 0 ∧ 0 ≤ u ∧ u < iI s 9 ∧ (v < 0 ∨ 23 < v)))))) := by
  refine ct_ofX G (by decide) (Nat.le_of_ble_eq_true rfl) (fun k X E ET hRt hXt q => ?_)
  show WS k 0 [(0, .ref (A 0)), (1, .int (Int32.ofInt u)), (2, .int (Int32.ofInt v))] [] _ 0 0
  have F : Fm [] [] s s := fm_rf _ _ s
  have aw0_11 : SAM 11 s s := sam_rf
  have b1 : (0 : Int) ≤ iI s 9 ∧ iI s 9 ≤ 12 := I.1 9
  refine z_aload_n X (x := A 0) (show cdA 142 0 = some (.aload_n 0, 1, 0, 0, 0) from rfl) (List.Mem.head _) ?_
  refine z_load_n X (x := u) (show cdA 142 1 = some (.iload_n 1, 1, 0, 0, 0) from rfl) (List.Mem.tail _ (List.Mem.head _)) ?_
  refine z_callV X 0 (rm := rmN 180) (As := [.int (Int32.ofInt u)]) (st := []) (show cdA 142 2 = some (.invokevirtual 140, 3, 180, 0, 0) from rfl) rfl (by decide) rfl (by rw [E.1, E.2.1, E.2.2.1]; exact cs_needStream2 G I (by first | exact ⟨p0.1, p0.2⟩ | omega)) ⟨by rw [E.2.2.2]; exact (show (rmN 180).frames + 1 ≤ (rmN 142).frames by decide), by rw [E.2.2.2]; exact (show 8 + (mNL (miB 180) + 11) + (rmN 180).locals ≤ (rmN 142).locals by decide), by rw [E.2.2.2]; exact (show 0 + 1 ≤ 2 by omega), by rw [E.2.2.2]; exact (show 0 + 6 ≤ 12 by omega)⟩ (Nat.le_of_ble_eq_true rfl) (fun vv s2 hq => ?_) (fun ee s2 hq => ?_)
  rotate_left
  · obtain ⟨Is2, Fs2, (⟨hv, hps2⟩ | ⟨xx, hv, hps2⟩)⟩ := hq
    · cases hv
    · cases hv
      have Gs2 := fm_ts F Fs2 (by decide) (by decide)
      have ws2_9 : iI s2 9 = iI s 9 := fm_i Fs2 (by decide)
      have aws2_11 : SAM 11 s s2 := sam_ts aw0_11 (sam_fm Fs2 (by decide))
      exact x_out X.1 q (fun x hx => (hXt x hx).elim) (show 1 ≤ 2 by omega) (show 6 ≤ 12 by omega) ⟨_, rfl, Is2, Gs2, Or.inr ⟨xx, rfl, by omega⟩⟩
  obtain ⟨Is2, Fs2, (⟨hv, hps2⟩ | ⟨xx, hv, hps2⟩)⟩ := hq
  rotate_left
  · cases hv
  cases hv
  have Gs2 := fm_ts F Fs2 (by decide) (by decide)
  have ws2_9 : iI s2 9 = iI s 9 := fm_i Fs2 (by decide)
  have aws2_11 : SAM 11 s s2 := sam_ts aw0_11 (sam_fm Fs2 (by decide))
  show WS k 5 [(0, .ref (A 0)), (1, .int (Int32.ofInt u)), (2, .int (Int32.ofInt v))] [] (Wd A dT s2) 1 6
  refine z_aload_n X (x := A 0) (show cdA 142 5 = some (.aload_n 0, 1, 0, 0, 0) from rfl) (List.Mem.head _) ?_
  refine z_load_n X (x := v) (show cdA 142 6 = some (.iload_n 2, 1, 0, 0, 0) from rfl) (List.Mem.tail _ (List.Mem.tail _ (List.Mem.head _))) ?_
  refine z_callV X 0 (rm := rmN 183) (As := [.int (Int32.ofInt v)]) (st := []) (show cdA 142 7 = some (.invokevirtual 148, 3, 183, 0, 0) from rfl) rfl (by decide) rfl (by rw [E.1, E.2.1, E.2.2.1]; exact cs_needQuarter2 G Is2 (by first | exact ⟨p1.1, p1.2⟩ | omega)) ⟨by rw [E.2.2.2]; exact (show (rmN 183).frames + 1 ≤ (rmN 142).frames by decide), by rw [E.2.2.2]; exact (show 8 + (mNL (miB 183) + 11) + (rmN 183).locals ≤ (rmN 142).locals by decide), by rw [E.2.2.2]; exact (show 1 + 1 ≤ 2 by omega), by rw [E.2.2.2]; exact (show 6 + 6 ≤ 12 by omega)⟩ (Nat.le_of_ble_eq_true rfl) (fun vv s4 hq => ?_) (fun ee s4 hq => ?_)
  rotate_left
  · obtain ⟨Is4, Fs4, (⟨hv, hps4⟩ | ⟨xx, hv, hps4⟩)⟩ := hq
    · cases hv
    · cases hv
      have Gs4 := fm_ts Gs2 Fs4 (by decide) (by decide)
      have ws4_9 : iI s4 9 = iI s2 9 := fm_i Fs4 (by decide)
      have aws4_11 : SAM 11 s s4 := sam_ts aws2_11 (sam_fm Fs4 (by decide))
      exact x_out X.1 q (fun x hx => (hXt x hx).elim) (show (1 + 1) ≤ 2 by omega) (show (6 + 6) ≤ 12 by omega) ⟨_, rfl, Is4, Gs4, Or.inr ⟨xx, rfl, by omega⟩⟩
  obtain ⟨Is4, Fs4, (⟨hv, hps4⟩ | ⟨xx, hv, hps4⟩)⟩ := hq
  rotate_left
  · cases hv
  cases hv
  have Gs4 := fm_ts Gs2 Fs4 (by decide) (by decide)
  have ws4_9 : iI s4 9 = iI s2 9 := fm_i Fs4 (by decide)
  have aws4_11 : SAM 11 s s4 := sam_ts aws2_11 (sam_fm Fs4 (by decide))
  show WS k 10 [(0, .ref (A 0)), (1, .int (Int32.ofInt u)), (2, .int (Int32.ofInt v))] [] (Wd A dT s4) (1 + 1) (6 + 6)
  refine z_aload_n X (x := A 0) (show cdA 142 10 = some (.aload_n 0, 1, 0, 0, 0) from rfl) (List.Mem.head _) ?_
  refine s_getR X 0 (show cdA 142 11 = some (.getfield 19, 3, 11, 1, 0) from rfl) (by decide) rfl rfl ?_
  refine s_getR X 3 (show cdA 142 14 = some (.getfield 164, 3, 9, 12, 0) from rfl) (by decide) rfl rfl ?_
  refine z_load_n X (x := v) (show cdA 142 17 = some (.iload_n 2, 1, 0, 0, 0) from rfl) (List.Mem.tail _ (List.Mem.tail _ (List.Mem.head _))) ?_
  refine z_bipush X (show cdA 142 18 = some (.bipush 12, 2, 0, 0, 12) from rfl) ?_
  refine z_mul X (show cdA 142 20 = some (.imul, 1, 0, 0, 0) from rfl) ?_
  refine z_load_n X (x := u) (show cdA 142 21 = some (.iload_n 1, 1, 0, 0, 0) from rfl) (List.Mem.tail _ (List.Mem.head _)) ?_
  refine z_add X (show cdA 142 22 = some (.iadd, 1, 0, 0, 0) from rfl) ?_
  refine z_ald X 14 (show cdA 142 23 = some (.iaload, 1, 0, 0, 0) from rfl) (by decide) rfl (by first | exact oq_0f03f1de hps4.1 hps2.1 | omega) (show ((v * 12) + u) < 288 by first | exact oq_45988efc hps4.2 hps2.2 b1.2 | omega) (by decide) ?_
  have b6 : (0 : Int) ≤ iC s4 11 (((v * 12) + u)).toNat ∧ iC s4 11 (((v * 12) + u)).toNat ≤ 50 := Is4.2 11 _ (show (((v * 12) + u)).toNat < 288 by first | exact oq_8395bb7c hps4.2 hps2.2 b1.2 | omega)
  have ar7 : iC s4 11 (((v * 12) + u)).toNat = iC s 11 (((v * 12) + u)).toNat := aws4_11 _
  exact w_iret X.1 q hRt rfl (ax_d X (show cdA 142 24 = some (.ireturn, 1, 0, 0, 0) from rfl)) (show (1 + 1) ≤ 2 by omega) (show (6 + 6) ≤ 12 by omega) ⟨_, rfl, Is4, Gs4, Or.inl ⟨(iC s4 11 (((v * 12) + u)).toNat), rfl, (rng_to _), by first | exact ⟨hps2.1, hps2.2, hps4.1, hps4.2, ar7⟩ | omega⟩⟩
set_option maxRecDepth 4000 in
theorem lw_flow3 (G : GX l s0 D tys a0 dT) (I : Bd s) (jMOI : MOI s) {u v p w : Int} (p0 : rng u) (p1 : rng v) (p2 : rng p) (p3 : rng w) : CTL l s0 D A dT 317 (rmN 317) [.ref (A 0), .int (Int32.ofInt u), .int (Int32.ofInt v), .int (Int32.ofInt p), .int (Int32.ofInt w)] s (fun o t => Bd t ∧ Fm [] [8, 11, 12, 13, 14] s t ∧ ∃ e, o = .inl (some (.int (Int32.ofInt e))) ∧ rng e ∧ ((e = 0 ∧ 0 ≤ u ∧ u < iI s 9 ∧ 0 ≤ v ∧ v ≤ 23 ∧ 0 ≤ p ∧ p ≤ 23 ∧ v ≤ p ∧ 0 ≤ w ∧ w ≤ 50 ∧ MOI t ∧ FLU (CNR s) (CNR t) u v (p + 1) w ∧ SAM 10 s t ∧ SAM 9 s t) ∨ (e = 1 ∧ (u < 0 ∨ iI s 9 ≤ u) ∧ SA4 s t) ∨ (e = 2 ∧ 0 ≤ u ∧ u < iI s 9 ∧ (v < 0 ∨ 23 < v ∨ p < 0 ∨ 23 < p ∨ p < v ∨ w < 0 ∨ 50 < w) ∧ SA4 s t))) := by
  refine ctL_of G (by decide) (Nat.le_of_ble_eq_true rfl) (by decide) (show cdA 317 0 = some (.aload_n 0, 1, 0, 0, 0) from rfl) (fun k X E ET hRt hEx q => ?_)
  show WS k 0 [(0, .ref (A 0)), (1, .int (Int32.ofInt u)), (2, .int (Int32.ofInt v)), (3, .int (Int32.ofInt p)), (4, .int (Int32.ofInt w))] [] _ 0 0
  have F : Fm [] [8, 11, 12, 13, 14] s s := fm_rf _ _ s
  have hA := swA_rf A
  have b1 : (0 : Int) ≤ iI s 9 ∧ iI s 9 ≤ 12 := I.1 9
  refine z_aload_n X (x := A 0) (show cdA 317 0 = some (.aload_n 0, 1, 0, 0, 0) from rfl) (List.Mem.head _) ?_
  refine z_load_n X (x := u) (show cdA 317 1 = some (.iload_n 1, 1, 0, 0, 0) from rfl) (List.Mem.tail _ (List.Mem.head _)) ?_
  refine z_load_n X (x := v) (show cdA 317 2 = some (.iload_n 2, 1, 0, 0, 0) from rfl) (List.Mem.tail _ (List.Mem.tail _ (List.Mem.head _))) ?_
  refine z_load_n X (x := p) (show cdA 317 3 = some (.iload_n 3, 1, 0, 0, 0) from rfl) (List.Mem.tail _ (List.Mem.tail _ (List.Mem.tail _ (List.Mem.head _)))) ?_
  refine z_load X (x := w) (show cdA 317 4 = some (.iload 4, 2, 0, 0, 0) from rfl) (List.Mem.tail _ (List.Mem.tail _ (List.Mem.tail _ (List.Mem.tail _ (List.Mem.head _))))) ?_
  refine z_callV X 0 (rm := rmN 140) (As := [.int (Int32.ofInt u), .int (Int32.ofInt v), .int (Int32.ofInt p), .int (Int32.ofInt w)]) (st := []) (show cdA 317 6 = some (.invokevirtual 24, 3, 140, 0, 0) from rfl) rfl (by decide) rfl (by rw [E.1, E.2.1, E.2.2.1]; exact cs_flow3 G I jMOI (by omega) (by omega) (by omega) (by omega)) ⟨by rw [E.2.2.2]; exact (show (rmN 140).frames + 1 ≤ (rmN 317).frames by decide), by rw [E.2.2.2]; exact (show 8 + (mNL (miB 140) + 11) + (rmN 140).locals ≤ (rmN 317).locals by decide), by rw [E.2.2.2]; exact (show 0 + (rmN 140).cells ≤ (rmN 317).cells by decide), by rw [E.2.2.2]; exact (show 0 + (rmN 140).slots ≤ (rmN 317).slots by decide)⟩ (Nat.le_of_ble_eq_true rfl) (fun vv s2 hq => ?_) (fun ee s2 hq => ?_)
  rotate_left
  · obtain ⟨Is2, Fs2, (⟨hv, hps2⟩ | ⟨xx, hv, hps2⟩)⟩ := hq
    · cases hv
    · cases hv
      rcases (show xx = 0 ∨ xx = 1 by omega) with gx | gx
      ·
        subst gx
        have Gs2 := fm_ts F Fs2 (by decide) (by decide)
        have ws2_9 : iI s2 9 = iI s 9 := fm_i Fs2 (by decide)
        refine (hEx 6 0).2 16 rfl _ _ _ _ _ (fun q1 => ?_)
        show WS k 16 [(0, .ref (A 0)), (1, .int (Int32.ofInt u)), (2, .int (Int32.ofInt v)), (3, .int (Int32.ofInt p)), (4, .int (Int32.ofInt w))] [.ref q1] (Wd A dT s2) 5 30
        refine z_astore X (lv' := [(5, .ref q1), (0, .ref (A 0)), (1, .int (Int32.ofInt u)), (2, .int (Int32.ofInt v)), (3, .int (Int32.ofInt p)), (4, .int (Int32.ofInt w))]) (show cdA 317 16 = some (.astore 5, 2, 0, 0, 0) from rfl) (by decide) (fun _ h => h) ?_
        refine z_const X (show cdA 317 18 = some (.iconst 2, 1, 0, 0, 0) from rfl) ?_
        exact w_iret X.1 q hRt rfl (ax_d X (show cdA 317 19 = some (.ireturn, 1, 0, 0, 0) from rfl)) (show 5 ≤ 5 by omega) (show 30 ≤ 30 by omega) ⟨A, _, hA, rfl, Is2, Gs2, 2, rfl, (by decide), Or.inr (Or.inr ⟨by decide, by omega, by omega, by omega, hps2.2⟩)⟩
      ·
        subst gx
        have Gs2 := fm_ts F Fs2 (by decide) (by decide)
        have ws2_9 : iI s2 9 = iI s 9 := fm_i Fs2 (by decide)
        refine (hEx 6 1).2 12 rfl _ _ _ _ _ (fun q1 => ?_)
        show WS k 12 [(0, .ref (A 0)), (1, .int (Int32.ofInt u)), (2, .int (Int32.ofInt v)), (3, .int (Int32.ofInt p)), (4, .int (Int32.ofInt w))] [.ref q1] (Wd A dT s2) 5 30
        refine z_astore X (lv' := [(5, .ref q1), (0, .ref (A 0)), (1, .int (Int32.ofInt u)), (2, .int (Int32.ofInt v)), (3, .int (Int32.ofInt p)), (4, .int (Int32.ofInt w))]) (show cdA 317 12 = some (.astore 5, 2, 0, 0, 0) from rfl) (by decide) (fun _ h => h) ?_
        refine z_const X (show cdA 317 14 = some (.iconst 1, 1, 0, 0, 0) from rfl) ?_
        exact w_iret X.1 q hRt rfl (ax_d X (show cdA 317 15 = some (.ireturn, 1, 0, 0, 0) from rfl)) (show 5 ≤ 5 by omega) (show 30 ≤ 30 by omega) ⟨A, _, hA, rfl, Is2, Gs2, 1, rfl, (by decide), Or.inr (Or.inl ⟨by decide, by omega, hps2.2⟩)⟩
  obtain ⟨Is2, Fs2, (⟨hv, hps2⟩ | ⟨xx, hv, hps2⟩)⟩ := hq
  rotate_left
  · cases hv
  cases hv
  have Gs2 := fm_ts F Fs2 (by decide) (by decide)
  have ws2_9 : iI s2 9 = iI s 9 := fm_i Fs2 (by decide)
  show WS k 9 [(0, .ref (A 0)), (1, .int (Int32.ofInt u)), (2, .int (Int32.ofInt v)), (3, .int (Int32.ofInt p)), (4, .int (Int32.ofInt w))] [] (Wd A dT s2) 5 30
  refine z_goto X (t := 20) (show cdA 317 9 = some (.goto 11, 3, 0, 0, 0) from rfl) (by decide) ?_
  refine z_const X (show cdA 317 20 = some (.iconst 0, 1, 0, 0, 0) from rfl) ?_
  exact w_iret X.1 q hRt rfl (ax_d X (show cdA 317 21 = some (.ireturn, 1, 0, 0, 0) from rfl)) (show 5 ≤ 5 by omega) (show 30 ≤ 30 by omega) ⟨A, _, hA, rfl, Is2, Gs2, 0, rfl, (by decide), Or.inl ⟨by decide, hps2⟩⟩
set_option maxRecDepth 4000 in
theorem lw_span3 (G : GX l s0 D tys a0 dT) (I : Bd s) (jMOI : MOI s) {u y z : Int} (p0 : rng u) (p1 : rng y) (p2 : rng z) : CTL l s0 D A dT 318 (rmN 318) [.ref (A 0), .int (Int32.ofInt u), .int (Int32.ofInt y), .int (Int32.ofInt z)] s (fun o t => Bd t ∧ Fm [] [9, 10, 11, 12, 13, 14] s t ∧ ∃ e, o = .inl (some (.int (Int32.ofInt e))) ∧ rng e ∧ ((e = 0 ∧ 0 ≤ u ∧ u < iI s 9 ∧ 0 ≤ y ∧ y ≤ 2 ∧ 0 ≤ z ∧ z ≤ 2 ∧ MOI t ∧ UPD 9 u y s t ∧ UPD 10 u z s t ∧ SAM 8 s t) ∨ (e = 1 ∧ (u < 0 ∨ iI s 9 ≤ u) ∧ SA4 s t) ∨ (e = 2 ∧ 0 ≤ u ∧ u < iI s 9 ∧ (y < 0 ∨ 2 < y ∨ z < 0 ∨ 2 < z) ∧ SA4 s t))) := by
  refine ctL_of G (by decide) (Nat.le_of_ble_eq_true rfl) (by decide) (show cdA 318 0 = some (.aload_n 0, 1, 0, 0, 0) from rfl) (fun k X E ET hRt hEx q => ?_)
  show WS k 0 [(0, .ref (A 0)), (1, .int (Int32.ofInt u)), (2, .int (Int32.ofInt y)), (3, .int (Int32.ofInt z))] [] _ 0 0
  have F : Fm [] [9, 10, 11, 12, 13, 14] s s := fm_rf _ _ s
  have hA := swA_rf A
  have b1 : (0 : Int) ≤ iI s 9 ∧ iI s 9 ≤ 12 := I.1 9
  refine z_aload_n X (x := A 0) (show cdA 318 0 = some (.aload_n 0, 1, 0, 0, 0) from rfl) (List.Mem.head _) ?_
  refine z_load_n X (x := u) (show cdA 318 1 = some (.iload_n 1, 1, 0, 0, 0) from rfl) (List.Mem.tail _ (List.Mem.head _)) ?_
  refine z_load_n X (x := y) (show cdA 318 2 = some (.iload_n 2, 1, 0, 0, 0) from rfl) (List.Mem.tail _ (List.Mem.tail _ (List.Mem.head _))) ?_
  refine z_load_n X (x := z) (show cdA 318 3 = some (.iload_n 3, 1, 0, 0, 0) from rfl) (List.Mem.tail _ (List.Mem.tail _ (List.Mem.tail _ (List.Mem.head _)))) ?_
  refine z_callV X 0 (rm := rmN 141) (As := [.int (Int32.ofInt u), .int (Int32.ofInt y), .int (Int32.ofInt z)]) (st := []) (show cdA 318 4 = some (.invokevirtual 28, 3, 141, 0, 0) from rfl) rfl (by decide) rfl (by rw [E.1, E.2.1, E.2.2.1]; exact cs_span3 G I jMOI (by omega) (by omega) (by omega)) ⟨by rw [E.2.2.2]; exact (show (rmN 141).frames + 1 ≤ (rmN 318).frames by decide), by rw [E.2.2.2]; exact (show 8 + (mNL (miB 141) + 11) + (rmN 141).locals ≤ (rmN 318).locals by decide), by rw [E.2.2.2]; exact (show 0 + (rmN 141).cells ≤ (rmN 318).cells by decide), by rw [E.2.2.2]; exact (show 0 + (rmN 141).slots ≤ (rmN 318).slots by decide)⟩ (Nat.le_of_ble_eq_true rfl) (fun vv s2 hq => ?_) (fun ee s2 hq => ?_)
  rotate_left
  · obtain ⟨Is2, Fs2, (⟨hv, hps2⟩ | ⟨xx, hv, hps2⟩)⟩ := hq
    · cases hv
    · cases hv
      rcases (show xx = 0 ∨ xx = 1 by omega) with gx | gx
      ·
        subst gx
        have Gs2 := fm_ts F Fs2 (by decide) (by decide)
        have ws2_9 : iI s2 9 = iI s 9 := fm_i Fs2 (by decide)
        refine (hEx 4 0).2 14 rfl _ _ _ _ _ (fun q1 => ?_)
        show WS k 14 [(0, .ref (A 0)), (1, .int (Int32.ofInt u)), (2, .int (Int32.ofInt y)), (3, .int (Int32.ofInt z))] [.ref q1] (Wd A dT s2) 3 18
        refine z_astore X (lv' := [(4, .ref q1), (0, .ref (A 0)), (1, .int (Int32.ofInt u)), (2, .int (Int32.ofInt y)), (3, .int (Int32.ofInt z))]) (show cdA 318 14 = some (.astore 4, 2, 0, 0, 0) from rfl) (by decide) (fun _ h => h) ?_
        refine z_const X (show cdA 318 16 = some (.iconst 2, 1, 0, 0, 0) from rfl) ?_
        exact w_iret X.1 q hRt rfl (ax_d X (show cdA 318 17 = some (.ireturn, 1, 0, 0, 0) from rfl)) (show 3 ≤ 3 by omega) (show 18 ≤ 18 by omega) ⟨A, _, hA, rfl, Is2, Gs2, 2, rfl, (by decide), Or.inr (Or.inr ⟨by decide, by omega, by omega, by omega, hps2.2⟩)⟩
      ·
        subst gx
        have Gs2 := fm_ts F Fs2 (by decide) (by decide)
        have ws2_9 : iI s2 9 = iI s 9 := fm_i Fs2 (by decide)
        refine (hEx 4 1).2 10 rfl _ _ _ _ _ (fun q1 => ?_)
        show WS k 10 [(0, .ref (A 0)), (1, .int (Int32.ofInt u)), (2, .int (Int32.ofInt y)), (3, .int (Int32.ofInt z))] [.ref q1] (Wd A dT s2) 3 18
        refine z_astore X (lv' := [(4, .ref q1), (0, .ref (A 0)), (1, .int (Int32.ofInt u)), (2, .int (Int32.ofInt y)), (3, .int (Int32.ofInt z))]) (show cdA 318 10 = some (.astore 4, 2, 0, 0, 0) from rfl) (by decide) (fun _ h => h) ?_
        refine z_const X (show cdA 318 12 = some (.iconst 1, 1, 0, 0, 0) from rfl) ?_
        exact w_iret X.1 q hRt rfl (ax_d X (show cdA 318 13 = some (.ireturn, 1, 0, 0, 0) from rfl)) (show 3 ≤ 3 by omega) (show 18 ≤ 18 by omega) ⟨A, _, hA, rfl, Is2, Gs2, 1, rfl, (by decide), Or.inr (Or.inl ⟨by decide, by omega, hps2.2⟩)⟩
  obtain ⟨Is2, Fs2, (⟨hv, hps2⟩ | ⟨xx, hv, hps2⟩)⟩ := hq
  rotate_left
  · cases hv
  cases hv
  have Gs2 := fm_ts F Fs2 (by decide) (by decide)
  have ws2_9 : iI s2 9 = iI s 9 := fm_i Fs2 (by decide)
  show WS k 7 [(0, .ref (A 0)), (1, .int (Int32.ofInt u)), (2, .int (Int32.ofInt y)), (3, .int (Int32.ofInt z))] [] (Wd A dT s2) 3 18
  refine z_goto X (t := 18) (show cdA 318 7 = some (.goto 11, 3, 0, 0, 0) from rfl) (by decide) ?_
  refine z_const X (show cdA 318 18 = some (.iconst 0, 1, 0, 0, 0) from rfl) ?_
  exact w_iret X.1 q hRt rfl (ax_d X (show cdA 318 19 = some (.ireturn, 1, 0, 0, 0) from rfl)) (show 3 ≤ 3 by omega) (show 18 ≤ 18 by omega) ⟨A, _, hA, rfl, Is2, Gs2, 0, rfl, (by decide), Or.inl ⟨by decide, hps2⟩⟩
set_option maxRecDepth 4000 in
theorem lw_most2 (G : GX l s0 D tys a0 dT) (I : Bd s) {u v : Int} (p0 : rng u) (p1 : rng v) : CTL l s0 D A dT 319 (rmN 319) [.ref (A 0), .int (Int32.ofInt u), .int (Int32.ofInt v), .ref (A 517)] s (fun o t => Bd t ∧ Fm [] [1460] s t ∧ ∃ e, o = .inl (some (.int (Int32.ofInt e))) ∧ rng e ∧ ((e = 0 ∧ 0 ≤ u ∧ u < iI s 9 ∧ 0 ≤ v ∧ v ≤ 23 ∧ iO t = iC s 11 (v * 12 + u).toNat) ∨ (e = 1 ∧ (u < 0 ∨ iI s 9 ≤ u)) ∨ (e = 2 ∧ 0 ≤ u ∧ u < iI s 9 ∧ (v < 0 ∨ 23 < v)))) := by
  refine ctL_of G (by decide) (Nat.le_of_ble_eq_true rfl) (by decide) (show cdA 319 0 = some (.aload_n 3, 1, 0, 0, 0) from rfl) (fun k X E ET hRt hEx q => ?_)
  show WS k 0 [(0, .ref (A 0)), (1, .int (Int32.ofInt u)), (2, .int (Int32.ofInt v)), (3, .ref (A 517))] [] _ 0 0
  have F : Fm [] [1460] s s := fm_rf _ _ s
  have hA := swA_rf A
  have b1 : (0 : Int) ≤ iI s 9 ∧ iI s 9 ≤ 12 := I.1 9
  refine z_aload_n X (x := A 517) (show cdA 319 0 = some (.aload_n 3, 1, 0, 0, 0) from rfl) (List.Mem.tail _ (List.Mem.tail _ (List.Mem.tail _ (List.Mem.head _)))) ?_
  refine z_const X (show cdA 319 1 = some (.iconst 0, 1, 0, 0, 0) from rfl) ?_
  refine z_aload_n X (x := A 0) (show cdA 319 2 = some (.aload_n 0, 1, 0, 0, 0) from rfl) (List.Mem.head _) ?_
  refine z_load_n X (x := u) (show cdA 319 3 = some (.iload_n 1, 1, 0, 0, 0) from rfl) (List.Mem.tail _ (List.Mem.head _)) ?_
  refine z_load_n X (x := v) (show cdA 319 4 = some (.iload_n 2, 1, 0, 0, 0) from rfl) (List.Mem.tail _ (List.Mem.tail _ (List.Mem.head _))) ?_
  refine z_callV X 0 (rm := rmN 142) (As := [.int (Int32.ofInt u), .int (Int32.ofInt v)]) (st := [.int (Int32.ofInt 0), .ref (A 517)]) (show cdA 319 5 = some (.invokevirtual 32, 3, 142, 0, 0) from rfl) rfl (by decide) rfl (by rw [E.1, E.2.1, E.2.2.1]; exact cs_most2 G I (by omega) (by omega)) ⟨by rw [E.2.2.2]; exact (show (rmN 142).frames + 1 ≤ (rmN 319).frames by decide), by rw [E.2.2.2]; exact (show 8 + (mNL (miB 142) + 11) + (rmN 142).locals ≤ (rmN 319).locals by decide), by rw [E.2.2.2]; exact (show 0 + (rmN 142).cells ≤ (rmN 319).cells by decide), by rw [E.2.2.2]; exact (show 0 + (rmN 142).slots ≤ (rmN 319).slots by decide)⟩ (Nat.le_of_ble_eq_true rfl) (fun vv s2 hq => ?_) (fun ee s2 hq => ?_)
  rotate_left
  · obtain ⟨Is2, Fs2, (⟨e3, hv, hrs2, hps2⟩ | ⟨xx, hv, hps2⟩)⟩ := hq
    · cases hv
    · cases hv
      rcases (show xx = 0 ∨ xx = 1 by omega) with gx | gx
      ·
        subst gx
        have Gs2 := fm_ts F Fs2 (by decide) (by decide)
        have ws2_9 : iI s2 9 = iI s 9 := fm_i Fs2 (by decide)
        refine (hEx 5 0).2 17 rfl _ _ _ _ _ (fun q1 => ?_)
        show WS k 17 [(0, .ref (A 0)), (1, .int (Int32.ofInt u)), (2, .int (Int32.ofInt v)), (3, .ref (A 517))] [.ref q1] (Wd A dT s2) 2 12
        refine z_astore X (lv' := [(4, .ref q1), (0, .ref (A 0)), (1, .int (Int32.ofInt u)), (2, .int (Int32.ofInt v)), (3, .ref (A 517))]) (show cdA 319 17 = some (.astore 4, 2, 0, 0, 0) from rfl) (by decide) (fun _ h => h) ?_
        refine z_const X (show cdA 319 19 = some (.iconst 2, 1, 0, 0, 0) from rfl) ?_
        exact w_iret X.1 q hRt rfl (ax_d X (show cdA 319 20 = some (.ireturn, 1, 0, 0, 0) from rfl)) (show 2 ≤ 2 by omega) (show 12 ≤ 12 by omega) ⟨A, _, hA, rfl, Is2, Gs2, 2, rfl, (by decide), by omega⟩
      ·
        subst gx
        have Gs2 := fm_ts F Fs2 (by decide) (by decide)
        have ws2_9 : iI s2 9 = iI s 9 := fm_i Fs2 (by decide)
        refine (hEx 5 1).2 13 rfl _ _ _ _ _ (fun q1 => ?_)
        show WS k 13 [(0, .ref (A 0)), (1, .int (Int32.ofInt u)), (2, .int (Int32.ofInt v)), (3, .ref (A 517))] [.ref q1] (Wd A dT s2) 2 12
        refine z_astore X (lv' := [(4, .ref q1), (0, .ref (A 0)), (1, .int (Int32.ofInt u)), (2, .int (Int32.ofInt v)), (3, .ref (A 517))]) (show cdA 319 13 = some (.astore 4, 2, 0, 0, 0) from rfl) (by decide) (fun _ h => h) ?_
        refine z_const X (show cdA 319 15 = some (.iconst 1, 1, 0, 0, 0) from rfl) ?_
        exact w_iret X.1 q hRt rfl (ax_d X (show cdA 319 16 = some (.ireturn, 1, 0, 0, 0) from rfl)) (show 2 ≤ 2 by omega) (show 12 ≤ 12 by omega) ⟨A, _, hA, rfl, Is2, Gs2, 1, rfl, (by decide), by omega⟩
  obtain ⟨Is2, Fs2, (⟨e3, hv, hrs2, hps2⟩ | ⟨xx, hv, hps2⟩)⟩ := hq
  rotate_left
  · cases hv
  cases hv
  have Gs2 := fm_ts F Fs2 (by decide) (by decide)
  have ws2_9 : iI s2 9 = iI s 9 := fm_i Fs2 (by decide)
  show WS k 8 [(0, .ref (A 0)), (1, .int (Int32.ofInt u)), (2, .int (Int32.ofInt v)), (3, .ref (A 517))] [.int (Int32.ofInt e3), .int (Int32.ofInt 0), .ref (A 517)] (Wd A dT s2) 2 12
  refine w_i2l X.1 (ax_d X (show cdA 319 8 = some (.i2l, 1, 0, 0, 0) from rfl)) ?_
  refine z_last X 517 (show cdA 319 9 = some (.lastore, 1, 0, 0, 0) from rfl) (by decide) rfl (by omega) (show 0 < 1 by omega) (by decide) ?_
  obtain ⟨s4, hs4⟩ : ∃ x0, x0 = uD s2 460 (0 : Int).toNat (Int32.ofInt e3).toInt64 := ⟨_, rfl⟩
  rw [← hs4]
  have Is4 : Bd s4 := by rw [hs4]; exact bd_D Is2
  have Fs4 : Fm [] [1460] s s4 := by rw [hs4]; exact fm_D Gs2 (show 460 + 1000 ∈ _ by decide)
  have ws4_9 : iI s4 9 = iI s2 9 := by rw [hs4]; rfl
  have oos4 : iO s4 = e3 := by rw [hs4]; exact iO_u (by omega)
  refine z_goto X (t := 21) (show cdA 319 10 = some (.goto 11, 3, 0, 0, 0) from rfl) (by decide) ?_
  refine z_const X (show cdA 319 21 = some (.iconst 0, 1, 0, 0, 0) from rfl) ?_
  exact w_iret X.1 q hRt rfl (ax_d X (show cdA 319 22 = some (.ireturn, 1, 0, 0, 0) from rfl)) (show 2 ≤ 2 by omega) (show 12 ≤ 12 by omega) ⟨A, _, hA, rfl, Is4, Fs4, 0, rfl, (by decide), by omega⟩
set_option maxRecDepth 4000 in
theorem k_mostOf2 (G : GX l s0 D tys a0 dT) (I : Bd s) {x y : Int} (p0 : 0 ≤ x ∧ x ≤ 11) (p1 : 0 ≤ y ∧ y ≤ 23) : CT l s0 D A dT 220 (rmN 220) [.ref (A 179), .int (Int32.ofInt x), .int (Int32.ofInt y)] s (fun o t => Bd t ∧ Fm [] [] s t ∧ ∃ e, o = .inl (some (.int (Int32.ofInt e))) ∧ rng e ∧ (0 ≤ e ∧ e ≤ 50 ∧ MXG (CMR s x) (y - iC s 164 x.toNat) (y + iC s 163 x.toNat + 1) e)) := by
  refine ct_of G (by decide) (Nat.le_of_ble_eq_true rfl) (fun k X E hRt hXt q => ?_)
  show WS k 0 [(0, .ref (A 179)), (1, .int (Int32.ofInt x)), (2, .int (Int32.ofInt y))] [] _ 0 0
  have F : Fm [] [] s s := fm_rf _ _ s
  have aw0_164 : SAM 164 s s := sam_rf
  have aw0_163 : SAM 163 s s := sam_rf
  have hb9 : (0 : Int) ≤ iC s 163 x.toNat ∧ iC s 163 x.toNat ≤ 2 := I.2 163 _ (show x.toNat < 12 by omega)
  have L12 : ∀ (n : Nat) (t : PS) (xv yv nv c : Int), Bd t → Fm [] [] s t → (MXG (CMR s x) (y - iC s 164 x.toNat) c nv) → ((xv = x ∧ yv = y) ∧ (0 ≤ xv ∧ xv ≤ 11) ∧ (0 ≤ yv ∧ yv ≤ 23) ∧ (0 ≤ nv ∧ nv ≤ 50) ∧ -2 ≤ c ∧ c ≤ 26 ∧ y - iC s 164 x.toNat ≤ c ∧ c ≤ y + iC s 163 x.toNat + 1) → (26 - c : Int).toNat < n → (∀ (t' : PS) (nv' c' : Int), Bd t' → Fm [] [] s t' → (MXG (CMR s x) (y - iC s 164 x.toNat) (y + iC s 163 x.toNat + 1) nv') → (0 ≤ nv' ∧ nv' ≤ 50) → WS k 65 [(0, .ref (A 179)), (1, .int (Int32.ofInt xv)), (2, .int (Int32.ofInt yv)), (3, .int (Int32.ofInt nv')), (4, .int (Int32.ofInt c'))] [] (Wd A dT t') 0 0) → WS k 12 [(0, .ref (A 179)), (1, .int (Int32.ofInt xv)), (2, .int (Int32.ofInt yv)), (3, .int (Int32.ofInt nv)), (4, .int (Int32.ofInt c))] [] (Wd A dT t) 0 0 := by
    intro n
    induction n with
    | zero =>
      intro t xv yv nv c I F hq hi hm kx
      exact absurd hm (Nat.not_lt_zero _)
    | succ n ih =>
      intro t xv yv nv c I F hq hi hm kx
      have hx9 : xv = x := by omega
      have hE9 : iC s 163 (xv).toNat = iC s 163 x.toNat := by rw [hx9]
      refine z_load X (x := c) (show cdA 220 12 = some (.iload 4, 2, 0, 0, 0) from rfl) (List.Mem.tail _ (List.Mem.tail _ (List.Mem.tail _ (List.Mem.tail _ (List.Mem.head _))))) ?_
      refine z_load_n X (x := yv) (show cdA 220 14 = some (.iload_n 2, 1, 0, 0, 0) from rfl) (List.Mem.tail _ (List.Mem.tail _ (List.Mem.head _))) ?_
      refine z_aload_n X (x := A 179) (show cdA 220 15 = some (.aload_n 0, 1, 0, 0, 0) from rfl) (List.Mem.head _) ?_
      refine s_getR X 179 (show cdA 220 16 = some (.getfield 38, 3, 12, 24, 0) from rfl) (by decide) rfl rfl ?_
      refine z_load_n X (x := xv) (show cdA 220 19 = some (.iload_n 1, 1, 0, 0, 0) from rfl) (List.Mem.tail _ (List.Mem.head _)) ?_
      refine z_ald X 186 (show cdA 220 20 = some (.iaload, 1, 0, 0, 0) from rfl) (by decide) rfl (by first | exact hi.2.1.1 | omega) (show xv < 12 by first | exact oq_0ddfcfee hi.2.1.2 | omega) (by decide) ?_
      have b1001 : (0 : Int) ≤ iC t 163 (xv).toNat ∧ iC t 163 (xv).toNat ≤ 2 := I.2 163 _ (show (xv).toNat < 12 by first | exact oq_9c5fa447 hi.2.1.2 | omega)
      have ar1002 : iC t 163 (xv).toNat = iC s 163 (xv).toNat := (sam_fm F (by decide) : SAM 163 s t) _
      refine z_add X (show cdA 220 21 = some (.iadd, 1, 0, 0, 0) from rfl) ?_
      refine z_icmp_gt X (t := 65) (show cdA 220 22 = some (.if_icmp .gt 43, 3, 4, 0, 0) from rfl) (by decide) ⟨by first | exact oq_f81b6609 hi.2.2.2.2.1 | omega, by first | exact oq_9e7d853b hi.2.2.2.2.2.1 | omega⟩ ⟨by first | exact oq_34aac425 hi.2.2.1.1 b1001.1 | omega, by first | exact oq_b5a47671 hi.2.2.1.2 b1001.2 | omega⟩ (fun g1003 => ?_) (fun g1003 => ?_)
      ·
        refine WS_lv (lv := [(0, .ref (A 179)), (1, .int (Int32.ofInt xv)), (2, .int (Int32.ofInt yv)), (3, .int (Int32.ofInt nv)), (4, .int (Int32.ofInt c))]) (List.forall_mem_cons.mpr ⟨(List.Mem.head _), (List.forall_mem_cons.mpr ⟨(List.Mem.tail _ (List.Mem.head _)), (List.forall_mem_cons.mpr ⟨(List.Mem.tail _ (List.Mem.tail _ (List.Mem.head _))), (List.forall_mem_cons.mpr ⟨(List.Mem.tail _ (List.Mem.tail _ (List.Mem.tail _ (List.Mem.head _)))), (List.forall_mem_cons.mpr ⟨(List.Mem.tail _ (List.Mem.tail _ (List.Mem.tail _ (List.Mem.tail _ (List.Mem.head _))))), (fun q h => absurd h List.not_mem_nil)⟩)⟩)⟩)⟩)⟩) ?_
        exact kx _ nv c I F (mx_to hq (fun k _ _ _ => by omega)) (by first | exact ⟨hi.2.2.2.1.1, hi.2.2.2.1.2⟩ | omega)
      ·
        refine z_load X (x := c) (show cdA 220 25 = some (.iload 4, 2, 0, 0, 0) from rfl) (List.Mem.tail _ (List.Mem.tail _ (List.Mem.tail _ (List.Mem.tail _ (List.Mem.head _))))) ?_
        refine z_const X (show cdA 220 27 = some (.iconst 0, 1, 0, 0, 0) from rfl) ?_
        refine z_bipush X (show cdA 220 28 = some (.bipush 23, 2, 0, 0, 23) from rfl) ?_
        refine z_callS X (rm := rmN 188) (As := [.int (Int32.ofInt c), .int (Int32.ofInt 0), .int (Int32.ofInt 23)]) (st := []) (show cdA 220 30 = some (.invokestatic 209, 3, 188, 1, 0) from rfl) rfl (by rw [E.1, E.2.1, E.2.2.1]; exact k_in2 G I (by first | exact ⟨oq_f81b6609 hi.2.2.2.2.1, oq_9e7d853b hi.2.2.2.2.2.1⟩ | omega) (by first | exact ⟨by decide, by decide⟩ | omega) (by first | exact ⟨by decide, by decide⟩ | omega)) ⟨by rw [E.2.2.2]; exact (show (rmN 188).frames + 1 ≤ (rmN 220).frames by decide), by rw [E.2.2.2]; exact (show 8 + (mNL (miB 188) + 11) + (rmN 188).locals ≤ (rmN 220).locals by decide), by rw [E.2.2.2]; exact (show 0 + (rmN 188).cells ≤ (rmN 220).cells by decide), by rw [E.2.2.2]; exact (show 0 + (rmN 188).slots ≤ (rmN 220).slots by decide)⟩ (Nat.le_of_ble_eq_true rfl) (fun vv s1004 hq => ?_) (fun ee s1004 hq => ?_)
        rotate_left
        · obtain ⟨rfl, e1005, hv, hrs1004, hps1004⟩ := hq; cases hv
        obtain ⟨rfl, e1005, hv, hrs1004, hps1004⟩ := hq
        cases hv
        show WS k 33 [(0, .ref (A 179)), (1, .int (Int32.ofInt xv)), (2, .int (Int32.ofInt yv)), (3, .int (Int32.ofInt nv)), (4, .int (Int32.ofInt c))] [.int (Int32.ofInt e1005)] (Wd A dT t) 0 0
        refine z_if_eq X (t := 59) (show cdA 220 33 = some (.ifCond .eq 26, 3, 0, 0, 0) from rfl) (by decide) hrs1004 (fun g1006 => ?_) (fun g1006 => ?_)
        ·
          refine z_inc X (x := c) (lv' := [(4, .int (Int32.ofInt (c + 1))), (0, .ref (A 179)), (1, .int (Int32.ofInt xv)), (2, .int (Int32.ofInt yv)), (3, .int (Int32.ofInt nv))]) (show cdA 220 59 = some (.iinc 4 1, 3, 0, 0, 0) from rfl) (by decide) (List.Mem.tail _ (List.Mem.tail _ (List.Mem.tail _ (List.Mem.tail _ (List.Mem.head _))))) (fun _ h => h) ?_
          refine z_goto X (t := 12) (show cdA 220 62 = some (.goto (-50), 3, 0, 0, 0) from rfl) (by decide) ?_
          refine WS_lv (lv := [(0, .ref (A 179)), (1, .int (Int32.ofInt xv)), (2, .int (Int32.ofInt yv)), (3, .int (Int32.ofInt nv)), (4, .int (Int32.ofInt (c + 1)))]) (List.forall_mem_cons.mpr ⟨(List.Mem.tail _ (List.Mem.head _)), (List.forall_mem_cons.mpr ⟨(List.Mem.tail _ (List.Mem.tail _ (List.Mem.head _))), (List.forall_mem_cons.mpr ⟨(List.Mem.tail _ (List.Mem.tail _ (List.Mem.tail _ (List.Mem.head _)))), (List.forall_mem_cons.mpr ⟨(List.Mem.tail _ (List.Mem.tail _ (List.Mem.tail _ (List.Mem.tail _ (List.Mem.head _))))), (List.forall_mem_cons.mpr ⟨(List.Mem.head _), (fun q h => absurd h List.not_mem_nil)⟩)⟩)⟩)⟩)⟩) ?_
          exact ih _ xv yv nv (c + 1) I F (by first | exact mx_to hq (fun k _ _ _ => by omega) | exact mx_up (v := (iC t (190 + xv.toNat) c.toNat)) hq (by rw [show xv = x by omega]; exact fm_c F List.not_mem_nil) (by omega) (by omega) (by omega) (by omega) (by omega) (by omega)) (by first | exact ⟨And.intro (hx9) (hi.1.2), And.intro (hi.2.1.1) (hi.2.1.2), And.intro (hi.2.2.1.1) (hi.2.2.1.2), And.intro (hi.2.2.2.1.1) (hi.2.2.2.1.2), oq_826c3458 hi.2.2.2.2.1, oq_78fc2d48 g1003 hi.2.2.1.2 b1001.2, oq_e1c0d1f5 hi.2.2.2.2.2.2.1, oq_e9f60b4d hi.1.2 hE9 ar1002 g1003⟩ | omega) (by first | exact qk_me hm (by decide) (oq_5c7f6a1c g1003 hi.2.2.1.2 b1001.2) | omega) kx
        ·
          refine z_aload_n X (x := A 179) (show cdA 220 36 = some (.aload_n 0, 1, 0, 0, 0) from rfl) (List.Mem.head _) ?_
          refine s_getR X 179 (show cdA 220 37 = some (.getfield 55, 3, 12, 30, 0) from rfl) (by decide) rfl rfl ?_
          refine z_load_n X (x := xv) (show cdA 220 40 = some (.iload_n 1, 1, 0, 0, 0) from rfl) (List.Mem.tail _ (List.Mem.head _)) ?_
          refine z_aald X rw_215 (show cdA 220 41 = some (.aaload, 1, 0, 0, 0) from rfl) (by first | exact hi.2.1.1 | omega) (show xv < 12 by first | exact oq_0ddfcfee hi.2.1.2 | omega) (by decide) ?_
          refine z_load X (x := c) (show cdA 220 42 = some (.iload 4, 2, 0, 0, 0) from rfl) (List.Mem.tail _ (List.Mem.tail _ (List.Mem.tail _ (List.Mem.tail _ (List.Mem.head _))))) ?_
          refine z_ald2 X rw_215 (show cdA 220 44 = some (.iaload, 1, 0, 0, 0) from rfl) (show (xv : Int).toNat < 12 by first | exact oq_9c5fa447 hi.2.1.2 | omega) (by first | exact oq_0159bb48 g1006 hps1004 | omega) (show c < 24 by first | exact oq_127752ee g1006 hps1004 | omega) (by decide) ?_
          have b1007 : (0 : Int) ≤ (iC t (190 + (xv : Int).toNat) (c : Int).toNat) ∧ (iC t (190 + (xv : Int).toNat) (c : Int).toNat) ≤ 50 := rw_bd rw_215 I (show (xv : Int).toNat < 12 by first | exact oq_9c5fa447 hi.2.1.2 | omega) (show (c : Int).toNat < 24 by first | exact oq_200d9360 g1006 hps1004 | omega)
          refine z_load_n X (x := nv) (show cdA 220 45 = some (.iload_n 3, 1, 0, 0, 0) from rfl) (List.Mem.tail _ (List.Mem.tail _ (List.Mem.tail _ (List.Mem.head _)))) ?_
          refine z_icmp_le X (t := 59) (show cdA 220 46 = some (.if_icmp .le 13, 3, 5, 0, 0) from rfl) (by decide) (rng_to _) ⟨by first | exact oq_fa4e5087 hi.2.2.2.1.1 | omega, by first | exact oq_cbe526b3 hi.2.2.2.1.2 | omega⟩ (fun g1008 => ?_) (fun g1008 => ?_)
          ·
            refine z_inc X (x := c) (lv' := [(4, .int (Int32.ofInt (c + 1))), (0, .ref (A 179)), (1, .int (Int32.ofInt xv)), (2, .int (Int32.ofInt yv)), (3, .int (Int32.ofInt nv))]) (show cdA 220 59 = some (.iinc 4 1, 3, 0, 0, 0) from rfl) (by decide) (List.Mem.tail _ (List.Mem.tail _ (List.Mem.tail _ (List.Mem.tail _ (List.Mem.head _))))) (fun _ h => h) ?_
            refine z_goto X (t := 12) (show cdA 220 62 = some (.goto (-50), 3, 0, 0, 0) from rfl) (by decide) ?_
            refine WS_lv (lv := [(0, .ref (A 179)), (1, .int (Int32.ofInt xv)), (2, .int (Int32.ofInt yv)), (3, .int (Int32.ofInt nv)), (4, .int (Int32.ofInt (c + 1)))]) (List.forall_mem_cons.mpr ⟨(List.Mem.tail _ (List.Mem.head _)), (List.forall_mem_cons.mpr ⟨(List.Mem.tail _ (List.Mem.tail _ (List.Mem.head _))), (List.forall_mem_cons.mpr ⟨(List.Mem.tail _ (List.Mem.tail _ (List.Mem.tail _ (List.Mem.head _)))), (List.forall_mem_cons.mpr ⟨(List.Mem.tail _ (List.Mem.tail _ (List.Mem.tail _ (List.Mem.tail _ (List.Mem.head _))))), (List.forall_mem_cons.mpr ⟨(List.Mem.head _), (fun q h => absurd h List.not_mem_nil)⟩)⟩)⟩)⟩)⟩) ?_
            exact ih _ xv yv nv (c + 1) I F (by first | exact mx_to hq (fun k _ _ _ => by omega) | exact mx_up (v := (iC t (190 + xv.toNat) c.toNat)) hq (by rw [show xv = x by omega]; exact fm_c F List.not_mem_nil) (by omega) (by omega) (by omega) (by omega) (by omega) (by omega)) (by first | exact ⟨And.intro (hx9) (hi.1.2), And.intro (hi.2.1.1) (hi.2.1.2), And.intro (hi.2.2.1.1) (hi.2.2.1.2), And.intro (hi.2.2.2.1.1) (hi.2.2.2.1.2), oq_826c3458 hi.2.2.2.2.1, oq_78fc2d48 g1003 hi.2.2.1.2 b1001.2, oq_e1c0d1f5 hi.2.2.2.2.2.2.1, oq_e9f60b4d hi.1.2 hE9 ar1002 g1003⟩ | omega) (by first | exact qk_me hm (by decide) (oq_5c7f6a1c g1003 hi.2.2.1.2 b1001.2) | omega) kx
          ·
            refine z_aload_n X (x := A 179) (show cdA 220 49 = some (.aload_n 0, 1, 0, 0, 0) from rfl) (List.Mem.head _) ?_
            refine s_getR X 179 (show cdA 220 50 = some (.getfield 55, 3, 12, 30, 0) from rfl) (by decide) rfl rfl ?_
            refine z_load_n X (x := xv) (show cdA 220 53 = some (.iload_n 1, 1, 0, 0, 0) from rfl) (List.Mem.tail _ (List.Mem.head _)) ?_
            refine z_aald X rw_215 (show cdA 220 54 = some (.aaload, 1, 0, 0, 0) from rfl) (by first | exact hi.2.1.1 | omega) (show xv < 12 by first | exact oq_0ddfcfee hi.2.1.2 | omega) (by decide) ?_
            refine z_load X (x := c) (show cdA 220 55 = some (.iload 4, 2, 0, 0, 0) from rfl) (List.Mem.tail _ (List.Mem.tail _ (List.Mem.tail _ (List.Mem.tail _ (List.Mem.head _))))) ?_
            refine z_ald2 X rw_215 (show cdA 220 57 = some (.iaload, 1, 0, 0, 0) from rfl) (show (xv : Int).toNat < 12 by first | exact oq_9c5fa447 hi.2.1.2 | omega) (by first | exact oq_0159bb48 g1006 hps1004 | omega) (show c < 24 by first | exact oq_127752ee g1006 hps1004 | omega) (by decide) ?_
            have b1009 : (0 : Int) ≤ (iC t (190 + (xv : Int).toNat) (c : Int).toNat) ∧ (iC t (190 + (xv : Int).toNat) (c : Int).toNat) ≤ 50 := rw_bd rw_215 I (show (xv : Int).toNat < 12 by first | exact oq_9c5fa447 hi.2.1.2 | omega) (show (c : Int).toNat < 24 by first | exact oq_200d9360 g1006 hps1004 | omega)
            refine z_store_n X (lv' := [(3, .int (Int32.ofInt (iC t (190 + (xv : Int).toNat) (c : Int).toNat))), (0, .ref (A 179)), (1, .int (Int32.ofInt xv)), (2, .int (Int32.ofInt yv)), (4, .int (Int32.ofInt c))]) (show cdA 220 58 = some (.istore_n 3, 1, 0, 0, 0) from rfl) (by decide) (fun _ h => h) ?_
            refine z_inc X (x := c) (lv' := [(4, .int (Int32.ofInt (c + 1))), (3, .int (Int32.ofInt (iC t (190 + (xv : Int).toNat) (c : Int).toNat))), (0, .ref (A 179)), (1, .int (Int32.ofInt xv)), (2, .int (Int32.ofInt yv))]) (show cdA 220 59 = some (.iinc 4 1, 3, 0, 0, 0) from rfl) (by decide) (List.Mem.tail _ (List.Mem.tail _ (List.Mem.tail _ (List.Mem.tail _ (List.Mem.head _))))) (fun _ h => h) ?_
            refine z_goto X (t := 12) (show cdA 220 62 = some (.goto (-50), 3, 0, 0, 0) from rfl) (by decide) ?_
            refine WS_lv (lv := [(0, .ref (A 179)), (1, .int (Int32.ofInt xv)), (2, .int (Int32.ofInt yv)), (3, .int (Int32.ofInt (iC t (190 + (xv : Int).toNat) (c : Int).toNat))), (4, .int (Int32.ofInt (c + 1)))]) (List.forall_mem_cons.mpr ⟨(List.Mem.tail _ (List.Mem.tail _ (List.Mem.head _))), (List.forall_mem_cons.mpr ⟨(List.Mem.tail _ (List.Mem.tail _ (List.Mem.tail _ (List.Mem.head _)))), (List.forall_mem_cons.mpr ⟨(List.Mem.tail _ (List.Mem.tail _ (List.Mem.tail _ (List.Mem.tail _ (List.Mem.head _))))), (List.forall_mem_cons.mpr ⟨(List.Mem.tail _ (List.Mem.head _)), (List.forall_mem_cons.mpr ⟨(List.Mem.head _), (fun q h => absurd h List.not_mem_nil)⟩)⟩)⟩)⟩)⟩) ?_
            exact ih _ xv yv (iC t (190 + (xv : Int).toNat) (c : Int).toNat) (c + 1) I F (mx_up (v := (iC t (190 + xv.toNat) c.toNat)) hq (by rw [show xv = x by omega]; exact fm_c F List.not_mem_nil) (by omega) (by omega) (by omega) (by omega) (by omega) (by omega)) (by first | exact ⟨And.intro (hx9) (hi.1.2), And.intro (hi.2.1.1) (hi.2.1.2), And.intro (hi.2.2.1.1) (hi.2.2.1.2), And.intro (b1009.1) (b1009.2), oq_826c3458 hi.2.2.2.2.1, oq_78fc2d48 g1003 hi.2.2.1.2 b1001.2, oq_e1c0d1f5 hi.2.2.2.2.2.2.1, oq_e9f60b4d hi.1.2 hE9 ar1002 g1003⟩ | omega) (by first | exact qk_me hm (by decide) (oq_5c7f6a1c g1003 hi.2.2.1.2 b1001.2) | omega) kx
  refine z_const X (show cdA 220 0 = some (.iconst 0, 1, 0, 0, 0) from rfl) ?_
  refine z_store_n X (lv' := [(3, .int (Int32.ofInt 0)), (0, .ref (A 179)), (1, .int (Int32.ofInt x)), (2, .int (Int32.ofInt y))]) (show cdA 220 1 = some (.istore_n 3, 1, 0, 0, 0) from rfl) (by decide) (fun _ h => h) ?_
  refine z_load_n X (x := y) (show cdA 220 2 = some (.iload_n 2, 1, 0, 0, 0) from rfl) (List.Mem.tail _ (List.Mem.tail _ (List.Mem.tail _ (List.Mem.head _)))) ?_
  refine z_aload_n X (x := A 179) (show cdA 220 3 = some (.aload_n 0, 1, 0, 0, 0) from rfl) (List.Mem.tail _ (List.Mem.head _)) ?_
  refine s_getR X 179 (show cdA 220 4 = some (.getfield 41, 3, 12, 25, 0) from rfl) (by decide) rfl rfl ?_
  refine z_load_n X (x := x) (show cdA 220 7 = some (.iload_n 1, 1, 0, 0, 0) from rfl) (List.Mem.tail _ (List.Mem.tail _ (List.Mem.head _))) ?_
  refine z_ald X 187 (show cdA 220 8 = some (.iaload, 1, 0, 0, 0) from rfl) (by decide) rfl (by first | exact p0.1 | omega) (show x < 12 by first | exact oq_0ddfcfee p0.2 | omega) (by decide) ?_
  have b1 : (0 : Int) ≤ iC s 164 (x).toNat ∧ iC s 164 (x).toNat ≤ 2 := I.2 164 _ (show (x).toNat < 12 by first | exact oq_9c5fa447 p0.2 | omega)
  have ar2 : iC s 164 (x).toNat = iC s 164 (x).toNat := aw0_164 _
  refine z_sub X (show cdA 220 9 = some (.isub, 1, 0, 0, 0) from rfl) ?_
  refine z_store X (lv' := [(4, .int (Int32.ofInt (y - (iC s 164 (x).toNat)))), (3, .int (Int32.ofInt 0)), (0, .ref (A 179)), (1, .int (Int32.ofInt x)), (2, .int (Int32.ofInt y))]) (show cdA 220 10 = some (.istore 4, 2, 0, 0, 0) from rfl) (by decide) (fun _ h => h) ?_
  refine WS_lv (lv := [(0, .ref (A 179)), (1, .int (Int32.ofInt x)), (2, .int (Int32.ofInt y)), (3, .int (Int32.ofInt 0)), (4, .int (Int32.ofInt (y - (iC s 164 (x).toNat))))]) (List.forall_mem_cons.mpr ⟨(List.Mem.tail _ (List.Mem.tail _ (List.Mem.head _))), (List.forall_mem_cons.mpr ⟨(List.Mem.tail _ (List.Mem.tail _ (List.Mem.tail _ (List.Mem.head _)))), (List.forall_mem_cons.mpr ⟨(List.Mem.tail _ (List.Mem.tail _ (List.Mem.tail _ (List.Mem.tail _ (List.Mem.head _))))), (List.forall_mem_cons.mpr ⟨(List.Mem.tail _ (List.Mem.head _)), (List.forall_mem_cons.mpr ⟨(List.Mem.head _), (fun q h => absurd h List.not_mem_nil)⟩)⟩)⟩)⟩)⟩) ?_
  refine L12 ((26 - (y - (iC s 164 (x).toNat)) : Int).toNat + 1) s x y 0 (y - (iC s 164 (x).toNat)) I F (mx_0 (by omega)) (by first | exact ⟨And.intro (by decide) (by decide), And.intro (p0.1) (p0.2), And.intro (p1.1) (p1.2), And.intro (by decide) (by decide), oq_15fc5886 p1.1 b1.2, oq_0fb31b58 p1.2 b1.1, by decide, oq_b9ecc99b hb9.1 b1.1⟩ | omega) (Nat.lt_succ_self _) ?_
  intro s3 x4 x5 Is3 Fs3 Qs3 hs3
  refine z_load_n X (x := x4) (show cdA 220 65 = some (.iload_n 3, 1, 0, 0, 0) from rfl) (List.Mem.tail _ (List.Mem.tail _ (List.Mem.tail _ (List.Mem.head _)))) ?_
  exact w_iret X.1 q hRt rfl (ax_d X (show cdA 220 66 = some (.ireturn, 1, 0, 0, 0) from rfl)) (Nat.zero_le _) (Nat.zero_le _) ⟨_, rfl, Is3, Fs3, x4, rfl, ⟨by first | exact oq_fa4e5087 hs3.1 | omega, by first | exact oq_cbe526b3 hs3.2 | omega⟩, ⟨by first | exact hs3.1 | omega, by first | exact hs3.2 | omega, Qs3⟩⟩
set_option maxRecDepth 4000 in
theorem k_most2 (G : GX l s0 D tys a0 dT) (I : Bd s) {x y : Int} (p0 : rng x) (p1 : rng y) : CT l s0 D A dT 221 (rmN 221) [.ref (A 179), .int (Int32.ofInt x), .int (Int32.ofInt y)] s (fun o t => Bd t ∧ Fm [73] [] s t ∧ ∃ e, o = .inl (some (.int (Int32.ofInt e))) ∧ rng e ∧ ((0 ≤ x ∧ x < iI s 90 ∧ 0 ≤ y ∧ y ≤ 23 ∧ iI t 73 = 0 ∧ MXG (CMR s x) (y - iC s 164 x.toNat) (y + iC s 163 x.toNat + 1) e) ∨ ((x < 0 ∨ iI s 90 ≤ x) ∧ iI t 73 = 1) ∨ (0 ≤ x ∧ x < iI s 90 ∧ (y < 0 ∨ 23 < y) ∧ iI t 73 = 2))) := by
  refine ct_of G (by decide) (Nat.le_of_ble_eq_true rfl) (fun k X E hRt hXt q => ?_)
  show WS k 0 [(0, .ref (A 179)), (1, .int (Int32.ofInt x)), (2, .int (Int32.ofInt y))] [] _ 0 0
  have F : Fm [73] [] s s := fm_rf _ _ s
  have b1 : (0 : Int) ≤ iI s 73 ∧ iI s 73 ≤ 3 := I.1 73
  have b2 : (0 : Int) ≤ iI s 90 ∧ iI s 90 ≤ 12 := I.1 90
  refine z_aload_n X (x := A 179) (show cdA 221 0 = some (.aload_n 0, 1, 0, 0, 0) from rfl) (List.Mem.head _) ?_
  refine z_const X (show cdA 221 1 = some (.iconst 0, 1, 0, 0, 0) from rfl) ?_
  refine s_putI X 179 (show cdA 221 2 = some (.putfield 172, 3, 12, 0, 0) from rfl) (by decide) rfl rfl (by decide) rfl rfl rfl ?_
  obtain ⟨s3, hs3⟩ : ∃ x0, x0 = uI s 73 (Int32.ofInt 0) := ⟨_, rfl⟩
  rw [← hs3]
  have Is3 : Bd s3 := by rw [hs3]; exact bd_I I (show (0 : Int) ≤ 0 ∧ 0 ≤ 3 by first | exact ⟨by decide, by decide⟩ | omega) (by decide)
  have Fs3 := fm_I (x := Int32.ofInt 0) F (show 73 ∈ _ by decide)
  rw [← hs3] at Fs3
  have vs3 : iI s3 73 = 0 := by rw [hs3]; exact iI_u (by decide)
  have ws3_90 : iI s3 90 = iI s 90 := by rw [hs3]; rfl
  refine z_aload_n X (x := A 179) (show cdA 221 5 = some (.aload_n 0, 1, 0, 0, 0) from rfl) (List.Mem.head _) ?_
  refine z_load_n X (x := x) (show cdA 221 6 = some (.iload_n 1, 1, 0, 0, 0) from rfl) (List.Mem.tail _ (List.Mem.head _)) ?_
  refine z_const X (show cdA 221 7 = some (.iconst 0, 1, 0, 0, 0) from rfl) ?_
  refine z_aload_n X (x := A 179) (show cdA 221 8 = some (.aload_n 0, 1, 0, 0, 0) from rfl) (List.Mem.head _) ?_
  refine z_getI X 179 (show cdA 221 9 = some (.getfield 233, 3, 12, 22, 0) from rfl) (by decide) rfl rfl ?_
  have b4 : (0 : Int) ≤ iI s3 90 ∧ iI s3 90 ≤ 12 := Is3.1 90
  refine z_const X (show cdA 221 12 = some (.iconst 1, 1, 0, 0, 0) from rfl) ?_
  refine z_sub X (show cdA 221 13 = some (.isub, 1, 0, 0, 0) from rfl) ?_
  refine z_callS X (rm := rmN 188) (As := [.int (Int32.ofInt x), .int (Int32.ofInt 0), .int (Int32.ofInt ((iI s3 90) - 1))]) (st := [.ref (A 179)]) (show cdA 221 14 = some (.invokestatic 209, 3, 188, 1, 0) from rfl) rfl (by rw [E.1, E.2.1, E.2.2.1]; exact k_in2 G Is3 (by first | exact ⟨p0.1, p0.2⟩ | omega) (by first | exact ⟨by decide, by decide⟩ | omega) (by first | exact ⟨oq_c1e961c7 b4.1, oq_d526ebd3 b4.2⟩ | omega)) ⟨by rw [E.2.2.2]; exact (show (rmN 188).frames + 1 ≤ (rmN 221).frames by decide), by rw [E.2.2.2]; exact (show 8 + (mNL (miB 188) + 11) + (rmN 188).locals ≤ (rmN 221).locals by decide), by rw [E.2.2.2]; exact (show 0 + (rmN 188).cells ≤ (rmN 221).cells by decide), by rw [E.2.2.2]; exact (show 0 + (rmN 188).slots ≤ (rmN 221).slots by decide)⟩ (Nat.le_of_ble_eq_true rfl) (fun vv s5 hq => ?_) (fun ee s5 hq => ?_)
  rotate_left
  · obtain ⟨rfl, e6, hv, hrs5, hps5⟩ := hq; cases hv
  obtain ⟨rfl, e6, hv, hrs5, hps5⟩ := hq
  cases hv
  show WS k 17 [(0, .ref (A 179)), (1, .int (Int32.ofInt x)), (2, .int (Int32.ofInt y))] [.int (Int32.ofInt e6), .ref (A 179)] (Wd A dT s3) 0 0
  have N7 : ∀ e8 : Int, (((e6 ≠ 0) ∧ e8 = 0) ∨ ((e6 = 0) ∧ e8 = 1)) → WS k 25 [(0, .ref (A 179)), (1, .int (Int32.ofInt x)), (2, .int (Int32.ofInt y))] [.int (Int32.ofInt e8), .ref (A 179)] (Wd A dT s3) 0 0 := by
    intro e8 he8
    have re8 : 0 ≤ e8 ∧ e8 ≤ 1 := by omega
    refine z_const X (show cdA 221 25 = some (.iconst 1, 1, 0, 0, 0) from rfl) ?_
    refine z_callV X 179 (rm := rmN 187) (As := [.int (Int32.ofInt e8), .int (Int32.ofInt 1)]) (st := []) (show cdA 221 26 = some (.invokevirtual 229, 3, 187, 0, 0) from rfl) rfl (by decide) rfl (by rw [E.1, E.2.1, E.2.2.1]; exact k_bad2 G Is3 (by first | exact oq_31e518ae re8.2 re8.1 | omega) (by first | exact ⟨by decide, by decide⟩ | omega)) ⟨by rw [E.2.2.2]; exact (show (rmN 187).frames + 1 ≤ (rmN 221).frames by decide), by rw [E.2.2.2]; exact (show 8 + (mNL (miB 187) + 11) + (rmN 187).locals ≤ (rmN 221).locals by decide), by rw [E.2.2.2]; exact (show 0 + (rmN 187).cells ≤ (rmN 221).cells by decide), by rw [E.2.2.2]; exact (show 0 + (rmN 187).slots ≤ (rmN 221).slots by decide)⟩ (Nat.le_of_ble_eq_true rfl) (fun vv s9 hq => ?_) (fun ee s9 hq => ?_)
    rotate_left
    · obtain ⟨Is9, Fs9, e10, hv, hrs9, hps9⟩ := hq; cases hv
    obtain ⟨Is9, Fs9, e10, hv, hrs9, hps9⟩ := hq
    cases hv
    have Gs9 := fm_ts Fs3 Fs9 (by decide) (by decide)
    have b11 : (0 : Int) ≤ iI s9 73 ∧ iI s9 73 ≤ 3 := Is9.1 73
    have ws9_90 : iI s9 90 = iI s3 90 := fm_i Fs9 (by decide)
    show WS k 29 [(0, .ref (A 179)), (1, .int (Int32.ofInt x)), (2, .int (Int32.ofInt y))] [.int (Int32.ofInt e10)] (Wd A dT s9) 0 0
    refine z_if_ne X (t := 55) (show cdA 221 29 = some (.ifCond .ne 26, 3, 1, 0, 0) from rfl) (by decide) hrs9 (fun g12 => ?_) (fun g12 => ?_)
    ·
      refine z_const X (show cdA 221 55 = some (.iconst 0, 1, 0, 0, 0) from rfl) ?_
      exact w_iret X.1 q hRt rfl (ax_d X (show cdA 221 56 = some (.ireturn, 1, 0, 0, 0) from rfl)) (Nat.zero_le _) (Nat.zero_le _) ⟨_, rfl, Is9, Gs9, 0, rfl, (by decide), Or.inr (by first | exact oq_5aec5af9 g12 hps9 he8 hps5 ws3_90 vs3 | omega)⟩
    ·
      refine z_aload_n X (x := A 179) (show cdA 221 32 = some (.aload_n 0, 1, 0, 0, 0) from rfl) (List.Mem.head _) ?_
      refine z_load_n X (x := y) (show cdA 221 33 = some (.iload_n 2, 1, 0, 0, 0) from rfl) (List.Mem.tail _ (List.Mem.tail _ (List.Mem.head _))) ?_
      refine z_const X (show cdA 221 34 = some (.iconst 0, 1, 0, 0, 0) from rfl) ?_
      refine z_bipush X (show cdA 221 35 = some (.bipush 23, 2, 0, 0, 23) from rfl) ?_
      refine z_callS X (rm := rmN 188) (As := [.int (Int32.ofInt y), .int (Int32.ofInt 0), .int (Int32.ofInt 23)]) (st := [.ref (A 179)]) (show cdA 221 37 = some (.invokestatic 209, 3, 188, 1, 0) from rfl) rfl (by rw [E.1, E.2.1, E.2.2.1]; exact k_in2 G Is9 (by first | exact ⟨p1.1, p1.2⟩ | omega) (by first | exact ⟨by decide, by decide⟩ | omega) (by first | exact ⟨by decide, by decide⟩ | omega)) ⟨by rw [E.2.2.2]; exact (show (rmN 188).frames + 1 ≤ (rmN 221).frames by decide), by rw [E.2.2.2]; exact (show 8 + (mNL (miB 188) + 11) + (rmN 188).locals ≤ (rmN 221).locals by decide), by rw [E.2.2.2]; exact (show 0 + (rmN 188).cells ≤ (rmN 221).cells by decide), by rw [E.2.2.2]; exact (show 0 + (rmN 188).slots ≤ (rmN 221).slots by decide)⟩ (Nat.le_of_ble_eq_true rfl) (fun vv s13 hq => ?_) (fun ee s13 hq => ?_)
      rotate_left
      · obtain ⟨rfl, e14, hv, hrs13, hps13⟩ := hq; cases hv
      obtain ⟨rfl, e14, hv, hrs13, hps13⟩ := hq
      cases hv
      show WS k 40 [(0, .ref (A 179)), (1, .int (Int32.ofInt x)), (2, .int (Int32.ofInt y))] [.int (Int32.ofInt e14), .ref (A 179)] (Wd A dT s9) 0 0
      have N15 : ∀ e16 : Int, (((e14 ≠ 0) ∧ e16 = 0) ∨ ((e14 = 0) ∧ e16 = 1)) → WS k 48 [(0, .ref (A 179)), (1, .int (Int32.ofInt x)), (2, .int (Int32.ofInt y))] [.int (Int32.ofInt e16), .ref (A 179)] (Wd A dT s9) 0 0 := by
        intro e16 he16
        have re16 : 0 ≤ e16 ∧ e16 ≤ 1 := by omega
        refine z_const X (show cdA 221 48 = some (.iconst 2, 1, 0, 0, 0) from rfl) ?_
        refine z_callV X 179 (rm := rmN 187) (As := [.int (Int32.ofInt e16), .int (Int32.ofInt 2)]) (st := []) (show cdA 221 49 = some (.invokevirtual 229, 3, 187, 0, 0) from rfl) rfl (by decide) rfl (by rw [E.1, E.2.1, E.2.2.1]; exact k_bad2 G Is9 (by first | exact oq_31e518ae re16.2 re16.1 | omega) (by first | exact ⟨by decide, by decide⟩ | omega)) ⟨by rw [E.2.2.2]; exact (show (rmN 187).frames + 1 ≤ (rmN 221).frames by decide), by rw [E.2.2.2]; exact (show 8 + (mNL (miB 187) + 11) + (rmN 187).locals ≤ (rmN 221).locals by decide), by rw [E.2.2.2]; exact (show 0 + (rmN 187).cells ≤ (rmN 221).cells by decide), by rw [E.2.2.2]; exact (show 0 + (rmN 187).slots ≤ (rmN 221).slots by decide)⟩ (Nat.le_of_ble_eq_true rfl) (fun vv s17 hq => ?_) (fun ee s17 hq => ?_)
        rotate_left
        · obtain ⟨Is17, Fs17, e18, hv, hrs17, hps17⟩ := hq; cases hv
        obtain ⟨Is17, Fs17, e18, hv, hrs17, hps17⟩ := hq
        cases hv
        have Gs17 := fm_ts Gs9 Fs17 (by decide) (by decide)
        have b19 : (0 : Int) ≤ iI s17 73 ∧ iI s17 73 ≤ 3 := Is17.1 73
        have ws17_90 : iI s17 90 = iI s9 90 := fm_i Fs17 (by decide)
        show WS k 52 [(0, .ref (A 179)), (1, .int (Int32.ofInt x)), (2, .int (Int32.ofInt y))] [.int (Int32.ofInt e18)] (Wd A dT s17) 0 0
        refine z_if_eq X (t := 57) (show cdA 221 52 = some (.ifCond .eq 5, 3, 0, 0, 0) from rfl) (by decide) hrs17 (fun g20 => ?_) (fun g20 => ?_)
        ·
          refine z_aload_n X (x := A 179) (show cdA 221 57 = some (.aload_n 0, 1, 0, 0, 0) from rfl) (List.Mem.head _) ?_
          refine z_load_n X (x := x) (show cdA 221 58 = some (.iload_n 1, 1, 0, 0, 0) from rfl) (List.Mem.tail _ (List.Mem.head _)) ?_
          refine z_load_n X (x := y) (show cdA 221 59 = some (.iload_n 2, 1, 0, 0, 0) from rfl) (List.Mem.tail _ (List.Mem.tail _ (List.Mem.head _))) ?_
          refine z_callV X 179 (rm := rmN 220) (As := [.int (Int32.ofInt x), .int (Int32.ofInt y)]) (st := []) (show cdA 221 60 = some (.invokevirtual 303, 3, 220, 0, 0) from rfl) rfl (by decide) rfl (by rw [E.1, E.2.1, E.2.2.1]; exact k_mostOf2 G Is17 (by first | exact ⟨oq_b1e4434e g12 hps9 he8 hps5 vs3, oq_b4c3a517 g12 hps9 he8 hps5 b4.2 vs3⟩ | omega) (by first | exact ⟨oq_7a13fe08 g20 hps17 he16 hps13 g12 b11.1 hps9 vs3, oq_2366bc3c g20 hps17 he16 hps13 g12 b11.1 hps9 vs3⟩ | omega)) ⟨by rw [E.2.2.2]; exact (show (rmN 220).frames + 1 ≤ (rmN 221).frames by decide), by rw [E.2.2.2]; exact (show 8 + (mNL (miB 220) + 11) + (rmN 220).locals ≤ (rmN 221).locals by decide), by rw [E.2.2.2]; exact (show 0 + (rmN 220).cells ≤ (rmN 221).cells by decide), by rw [E.2.2.2]; exact (show 0 + (rmN 220).slots ≤ (rmN 221).slots by decide)⟩ (Nat.le_of_ble_eq_true rfl) (fun vv s21 hq => ?_) (fun ee s21 hq => ?_)
          rotate_left
          · obtain ⟨Is21, Fs21, e22, hv, hrs21, hps21⟩ := hq; cases hv
          obtain ⟨Is21, Fs21, e22, hv, hrs21, hps21⟩ := hq
          cases hv
          have Gs21 := fm_ts Gs17 Fs21 (by decide) (by decide)
          have ws21_73 : iI s21 73 = iI s17 73 := fm_i Fs21 (by decide)
          have ws21_90 : iI s21 90 = iI s17 90 := fm_i Fs21 (by decide)
          show WS k 63 [(0, .ref (A 179)), (1, .int (Int32.ofInt x)), (2, .int (Int32.ofInt y))] [.int (Int32.ofInt e22)] (Wd A dT s21) 0 0
          exact w_iret X.1 q hRt rfl (ax_d X (show cdA 221 63 = some (.ireturn, 1, 0, 0, 0) from rfl)) (Nat.zero_le _) (Nat.zero_le _) ⟨_, rfl, Is21, Gs21, e22, rfl, hrs21, Or.inl ⟨by first | exact oq_b1e4434e g12 hps9 he8 hps5 vs3 | omega, by first | exact oq_96bc3da2 g12 hps9 he8 hps5 ws3_90 vs3 | omega, by first | exact oq_7a13fe08 g20 hps17 he16 hps13 g12 b11.1 hps9 vs3 | omega, by first | exact oq_2366bc3c g20 hps17 he16 hps13 g12 b11.1 hps9 vs3 | omega, by first | exact oq_24676001 ws21_73 g20 b19.1 hps17 g12 hps9 vs3 | omega, mxm_st hps21.2.2 (fun j hj => fm_c Gs17 List.not_mem_nil) (sam_fm Gs17 (by decide)) (sam_fm Gs17 (by decide)) (by omega) (by omega)⟩⟩
        ·
          refine z_const X (show cdA 221 55 = some (.iconst 0, 1, 0, 0, 0) from rfl) ?_
          exact w_iret X.1 q hRt rfl (ax_d X (show cdA 221 56 = some (.ireturn, 1, 0, 0, 0) from rfl)) (Nat.zero_le _) (Nat.zero_le _) ⟨_, rfl, Is17, Gs17, 0, rfl, (by decide), Or.inr (by first | exact oq_c73d7b31 g20 hps17 he16 hps13 g12 b11.1 hps9 he8 hps5 ws3_90 vs3 | omega)⟩
      refine z_if_ne X (t := 47) (show cdA 221 40 = some (.ifCond .ne 7, 3, 1, 0, 0) from rfl) (by decide) hrs13 (fun g23 => ?_) (fun g23 => ?_)
      ·
        refine z_const X (show cdA 221 47 = some (.iconst 0, 1, 0, 0, 0) from rfl) ?_
        exact N15 _ (Or.inl ⟨g23, rfl⟩)
      ·
        refine z_const X (show cdA 221 43 = some (.iconst 1, 1, 0, 0, 0) from rfl) ?_
        refine z_goto X (t := 48) (show cdA 221 44 = some (.goto 4, 3, 0, 0, 0) from rfl) (by decide) ?_
        exact N15 _ (Or.inr (⟨g23, rfl⟩))
  refine z_if_ne X (t := 24) (show cdA 221 17 = some (.ifCond .ne 7, 3, 1, 0, 0) from rfl) (by decide) hrs5 (fun g24 => ?_) (fun g24 => ?_)
  ·
    refine z_const X (show cdA 221 24 = some (.iconst 0, 1, 0, 0, 0) from rfl) ?_
    exact N7 _ (Or.inl ⟨g24, rfl⟩)
  ·
    refine z_const X (show cdA 221 20 = some (.iconst 1, 1, 0, 0, 0) from rfl) ?_
    refine z_goto X (t := 25) (show cdA 221 21 = some (.goto 4, 3, 0, 0, 0) from rfl) (by decide) ?_
    exact N7 _ (Or.inr (⟨g24, rfl⟩))
set_option maxRecDepth 4000 in
theorem k_flow3 (G : GX l s0 D tys a0 dT) (I : Bd s) {x y z w : Int} (p0 : rng x) (p1 : rng y) (p2 : rng z) (p3 : rng w) : CT l s0 D A dT 218 (rmN 218) [.ref (A 179), .int (Int32.ofInt x), .int (Int32.ofInt y), .int (Int32.ofInt z), .int (Int32.ofInt w)] s (fun o t => Bd t ∧ Fm [73] [190, 191, 192, 193, 194, 195, 196, 197, 198, 199, 200, 201] s t ∧ o = .inl none ∧ ((0 ≤ x ∧ x < iI s 90 ∧ 0 ≤ y ∧ y ≤ 23 ∧ 0 ≤ z ∧ z ≤ 23 ∧ y ≤ z ∧ 0 ≤ w ∧ w ≤ 50 ∧ iI t 73 = 0 ∧ FLU (CMR s) (CMR t) x y (z + 1) w) ∨ ((x < 0 ∨ iI s 90 ≤ x) ∧ iI t 73 = 1 ∧ SMR s t) ∨ (0 ≤ x ∧ x < iI s 90 ∧ (y < 0 ∨ 23 < y ∨ z < 0 ∨ 23 < z ∨ z < y ∨ w < 0 ∨ 50 < w) ∧ iI t 73 = 2 ∧ SMR s t))) := by
  refine ct_of G (by decide) (Nat.le_of_ble_eq_true rfl) (fun k X E hRt hXt q => ?_)
  show WS k 0 [(0, .ref (A 179)), (1, .int (Int32.ofInt x)), (2, .int (Int32.ofInt y)), (3, .int (Int32.ofInt z)), (4, .int (Int32.ofInt w))] [] _ 0 0
  have F : Fm [73] [190, 191, 192, 193, 194, 195, 196, 197, 198, 199, 200, 201] s s := fm_rf _ _ s
  have aw0_SMR : SMR s s := smr_rf
  have b1 : (0 : Int) ≤ iI s 73 ∧ iI s 73 ≤ 3 := I.1 73
  have b2 : (0 : Int) ≤ iI s 90 ∧ iI s 90 ≤ 12 := I.1 90
  have L85 : ∀ (n : Nat) (t : PS) (xv zv wv c : Int), Bd t → Fm [73] [190, 191, 192, 193, 194, 195, 196, 197, 198, 199, 200, 201] s t → (FLU (CMR s) (CMR t) x y c w) → (y ≤ z ∧ (xv = x ∧ zv = z ∧ wv = w ∧ y ≤ c ∧ c ≤ z + 1 ∧ 0 ≤ x ∧ x < iI s 90 ∧ 0 ≤ y ∧ iI t 90 = iI s 90) ∧ (0 ≤ xv ∧ xv ≤ 11) ∧ (0 ≤ zv ∧ zv ≤ 23) ∧ (0 ≤ wv ∧ wv ≤ 50) ∧ 0 ≤ c ∧ c ≤ 24 ∧ iI t 73 = 0) → (24 - c : Int).toNat < n → (∀ (t' : PS) (c' : Int), Bd t' → Fm [73] [190, 191, 192, 193, 194, 195, 196, 197, 198, 199, 200, 201] s t' → (FLU (CMR s) (CMR t') x y (z + 1) w) → ((c' = z + 1 ∧ 0 ≤ x ∧ x < iI s 90 ∧ 0 ≤ y ∧ y ≤ z ∧ z ≤ 23 ∧ 0 ≤ w ∧ w ≤ 50) ∧ iI t' 73 = 0) → WS k 108 [(0, .ref (A 179)), (1, .int (Int32.ofInt xv)), (3, .int (Int32.ofInt zv)), (4, .int (Int32.ofInt wv)), (5, .int (Int32.ofInt c'))] [] (Wd A dT t') 0 0) → WS k 85 [(0, .ref (A 179)), (1, .int (Int32.ofInt xv)), (3, .int (Int32.ofInt zv)), (4, .int (Int32.ofInt wv)), (5, .int (Int32.ofInt c))] [] (Wd A dT t) 0 0 := by
    intro n
    induction n with
    | zero =>
      intro t xv zv wv c I F hq hi hm kx
      exact absurd hm (Nat.not_lt_zero _)
    | succ n ih =>
      intro t xv zv wv c I F hq hi hm kx
      have b1001 : (0 : Int) ≤ iI t 73 ∧ iI t 73 ≤ 3 := I.1 73
      have b1002 : (0 : Int) ≤ iI t 90 ∧ iI t 90 ≤ 12 := I.1 90
      refine z_load X (x := c) (show cdA 218 85 = some (.iload 5, 2, 0, 0, 0) from rfl) (List.Mem.tail _ (List.Mem.tail _ (List.Mem.tail _ (List.Mem.tail _ (List.Mem.head _))))) ?_
      refine z_load_n X (x := zv) (show cdA 218 87 = some (.iload_n 3, 1, 0, 0, 0) from rfl) (List.Mem.tail _ (List.Mem.tail _ (List.Mem.head _))) ?_
      refine z_icmp_gt X (t := 108) (show cdA 218 88 = some (.if_icmp .gt 20, 3, 4, 0, 0) from rfl) (by decide) ⟨by first | exact oq_fa4e5087 hi.2.2.2.2.2.1 | omega, by first | exact oq_5bcd337f hi.2.2.2.2.2.2.1 | omega⟩ ⟨by first | exact oq_fa4e5087 hi.2.2.2.1.1 | omega, by first | exact oq_1a42ef34 hi.2.2.2.1.2 | omega⟩ (fun g1003 => ?_) (fun g1003 => ?_)
      ·
        refine WS_lv (lv := [(0, .ref (A 179)), (1, .int (Int32.ofInt xv)), (3, .int (Int32.ofInt zv)), (4, .int (Int32.ofInt wv)), (5, .int (Int32.ofInt c))]) (List.forall_mem_cons.mpr ⟨(List.Mem.head _), (List.forall_mem_cons.mpr ⟨(List.Mem.tail _ (List.Mem.head _)), (List.forall_mem_cons.mpr ⟨(List.Mem.tail _ (List.Mem.tail _ (List.Mem.head _))), (List.forall_mem_cons.mpr ⟨(List.Mem.tail _ (List.Mem.tail _ (List.Mem.tail _ (List.Mem.head _)))), (List.forall_mem_cons.mpr ⟨(List.Mem.tail _ (List.Mem.tail _ (List.Mem.tail _ (List.Mem.tail _ (List.Mem.head _))))), (fun q h => absurd h List.not_mem_nil)⟩)⟩)⟩)⟩)⟩) ?_
        exact kx _ c I F (by rw [show z + 1 = c by omega]; exact hq) (by first | exact ⟨And.intro (oq_4ab5b7c2 hi.2.1.2.2.2.2.1 hi.2.1.2.1 g1003) (And.intro (hi.2.1.2.2.2.2.2.1) (And.intro (hi.2.1.2.2.2.2.2.2.1) (And.intro (hi.2.1.2.2.2.2.2.2.2.1) (And.intro (hi.1) (And.intro (oq_72ff5d19 hi.2.1.2.1 hi.2.2.2.1.2) (And.intro (oq_151a919a hi.2.1.2.2.1 hi.2.2.2.2.1.1) (oq_445e9ec3 hi.2.1.2.2.1 hi.2.2.2.2.1.2))))))), hi.2.2.2.2.2.2.2⟩ | omega)
      ·
        refine z_aload_n X (x := A 179) (show cdA 218 91 = some (.aload_n 0, 1, 0, 0, 0) from rfl) (List.Mem.head _) ?_
        refine s_getR X 179 (show cdA 218 92 = some (.getfield 55, 3, 12, 30, 0) from rfl) (by decide) rfl rfl ?_
        refine z_load_n X (x := xv) (show cdA 218 95 = some (.iload_n 1, 1, 0, 0, 0) from rfl) (List.Mem.tail _ (List.Mem.head _)) ?_
        refine z_aald X rw_215 (show cdA 218 96 = some (.aaload, 1, 0, 0, 0) from rfl) (by first | exact hi.2.2.1.1 | omega) (show xv < 12 by first | exact oq_0ddfcfee hi.2.2.1.2 | omega) (by decide) ?_
        refine z_load X (x := c) (show cdA 218 97 = some (.iload 5, 2, 0, 0, 0) from rfl) (List.Mem.tail _ (List.Mem.tail _ (List.Mem.tail _ (List.Mem.tail _ (List.Mem.head _))))) ?_
        refine z_load X (x := wv) (show cdA 218 99 = some (.iload 4, 2, 0, 0, 0) from rfl) (List.Mem.tail _ (List.Mem.tail _ (List.Mem.tail _ (List.Mem.head _)))) ?_
        refine z_ast2 X rw_215 (show cdA 218 101 = some (.iastore, 1, 0, 0, 0) from rfl) (show (xv : Int).toNat < 12 by first | exact oq_9c5fa447 hi.2.2.1.2 | omega) (by first | exact hi.2.2.2.2.2.1 | omega) (show c < 24 by first | exact oq_c5e79f47 g1003 hi.2.2.2.1.2 | omega) (by decide) ?_
        obtain ⟨s1004, hs1004⟩ : ∃ x0, x0 = uC t (190 + (xv : Int).toNat) (c : Int).toNat (Int32.ofInt wv) := ⟨_, rfl⟩
        rw [← hs1004]
        have Is1004 : Bd s1004 := by rw [hs1004]; exact rw_st rw_215 I (show (xv : Int).toNat < 12 by first | exact oq_9c5fa447 hi.2.2.1.2 | omega) (show (0 : Int) ≤ wv ∧ wv ≤ 50 by first | exact ⟨hi.2.2.2.2.1.1, hi.2.2.2.2.1.2⟩ | omega) ⟨by first | exact oq_fa4e5087 hi.2.2.2.2.1.1 | omega, by first | exact oq_cbe526b3 hi.2.2.2.2.1.2 | omega⟩
        have Fs1004 := fm_C (i := (c : Int).toNat) (x := Int32.ofInt wv) F ((show ∀ j, j < 12 → 190 + j ∈ _ by decide) (xv : Int).toNat (by first | exact oq_9c5fa447 hi.2.2.1.2 | omega))
        rw [← hs1004] at Fs1004
        have ws1004_73 : iI s1004 73 = iI t 73 := by rw [hs1004]; rfl
        have ws1004_90 : iI s1004 90 = iI t 90 := by rw [hs1004]; rfl
        refine z_inc X (x := c) (lv' := [(5, .int (Int32.ofInt (c + 1))), (0, .ref (A 179)), (1, .int (Int32.ofInt xv)), (3, .int (Int32.ofInt zv)), (4, .int (Int32.ofInt wv))]) (show cdA 218 102 = some (.iinc 5 1, 3, 0, 0, 0) from rfl) (by decide) (List.Mem.tail _ (List.Mem.tail _ (List.Mem.tail _ (List.Mem.tail _ (List.Mem.head _))))) (fun _ h => h) ?_
        refine z_goto X (t := 85) (show cdA 218 105 = some (.goto (-20), 3, 0, 0, 0) from rfl) (by decide) ?_
        refine WS_lv (lv := [(0, .ref (A 179)), (1, .int (Int32.ofInt xv)), (3, .int (Int32.ofInt zv)), (4, .int (Int32.ofInt wv)), (5, .int (Int32.ofInt (c + 1)))]) (List.forall_mem_cons.mpr ⟨(List.Mem.tail _ (List.Mem.head _)), (List.forall_mem_cons.mpr ⟨(List.Mem.tail _ (List.Mem.tail _ (List.Mem.head _))), (List.forall_mem_cons.mpr ⟨(List.Mem.tail _ (List.Mem.tail _ (List.Mem.tail _ (List.Mem.head _)))), (List.forall_mem_cons.mpr ⟨(List.Mem.tail _ (List.Mem.tail _ (List.Mem.tail _ (List.Mem.tail _ (List.Mem.head _))))), (List.forall_mem_cons.mpr ⟨(List.Mem.head _), (fun q h => absurd h List.not_mem_nil)⟩)⟩)⟩)⟩)⟩) ?_
        exact ih _ xv zv wv (c + 1) Is1004 Fs1004 (by rw [hs1004]; exact flu_up hq (by omega) (by rw [show xv = x by omega, show wv = w by omega]; exact cmr_put ⟨by omega, by omega⟩ (by omega) (by omega) (by omega) (by omega))) (by first | exact ⟨hi.1, And.intro (hi.2.1.1) (And.intro (hi.2.1.2.1) (And.intro (hi.2.1.2.2.1) (And.intro (oq_03182e9e hi.2.1.2.2.2.1) (And.intro (oq_667557f6 g1003 hi.2.1.2.1) (And.intro (hi.2.1.2.2.2.2.2.1) (And.intro (hi.2.1.2.2.2.2.2.2.1) (And.intro (hi.2.1.2.2.2.2.2.2.2.1) (oq_1aa5be9e ws1004_90 hi.2.1.2.2.2.2.2.2.2.2)))))))), And.intro (hi.2.2.1.1) (hi.2.2.1.2), And.intro (hi.2.2.2.1.1) (hi.2.2.2.1.2), And.intro (hi.2.2.2.2.1.1) (hi.2.2.2.2.1.2), oq_54f49eb5 hi.2.2.2.2.2.1, oq_3f5436dc g1003 hi.2.2.2.1.2, oq_333640b7 ws1004_73 hi.2.2.2.2.2.2.2 b1001.1⟩ | omega) (by first | exact qk_me hm (by decide) (oq_416f5e90 g1003 hi.2.2.2.1.2) | omega) kx
  refine z_aload_n X (x := A 179) (show cdA 218 0 = some (.aload_n 0, 1, 0, 0, 0) from rfl) (List.Mem.head _) ?_
  refine z_const X (show cdA 218 1 = some (.iconst 0, 1, 0, 0, 0) from rfl) ?_
  refine s_putI X 179 (show cdA 218 2 = some (.putfield 172, 3, 12, 0, 0) from rfl) (by decide) rfl rfl (by decide) rfl rfl rfl ?_
  obtain ⟨s3, hs3⟩ : ∃ x0, x0 = uI s 73 (Int32.ofInt 0) := ⟨_, rfl⟩
  rw [← hs3]
  have Is3 : Bd s3 := by rw [hs3]; exact bd_I I (show (0 : Int) ≤ 0 ∧ 0 ≤ 3 by first | exact ⟨by decide, by decide⟩ | omega) (by decide)
  have Fs3 := fm_I (x := Int32.ofInt 0) F (show 73 ∈ _ by decide)
  rw [← hs3] at Fs3
  have vs3 : iI s3 73 = 0 := by rw [hs3]; exact iI_u (by decide)
  have ws3_90 : iI s3 90 = iI s 90 := by rw [hs3]; rfl
  have aws3_SMR : SMR s s3 := by rw [hs3]; exact aw0_SMR
  refine z_aload_n X (x := A 179) (show cdA 218 5 = some (.aload_n 0, 1, 0, 0, 0) from rfl) (List.Mem.head _) ?_
  refine z_load_n X (x := x) (show cdA 218 6 = some (.iload_n 1, 1, 0, 0, 0) from rfl) (List.Mem.tail _ (List.Mem.head _)) ?_
  refine z_const X (show cdA 218 7 = some (.iconst 0, 1, 0, 0, 0) from rfl) ?_
  refine z_aload_n X (x := A 179) (show cdA 218 8 = some (.aload_n 0, 1, 0, 0, 0) from rfl) (List.Mem.head _) ?_
  refine z_getI X 179 (show cdA 218 9 = some (.getfield 233, 3, 12, 22, 0) from rfl) (by decide) rfl rfl ?_
  have b4 : (0 : Int) ≤ iI s3 90 ∧ iI s3 90 ≤ 12 := Is3.1 90
  refine z_const X (show cdA 218 12 = some (.iconst 1, 1, 0, 0, 0) from rfl) ?_
  refine z_sub X (show cdA 218 13 = some (.isub, 1, 0, 0, 0) from rfl) ?_
  refine z_callS X (rm := rmN 188) (As := [.int (Int32.ofInt x), .int (Int32.ofInt 0), .int (Int32.ofInt ((iI s3 90) - 1))]) (st := [.ref (A 179)]) (show cdA 218 14 = some (.invokestatic 209, 3, 188, 1, 0) from rfl) rfl (by rw [E.1, E.2.1, E.2.2.1]; exact k_in2 G Is3 (by first | exact ⟨p0.1, p0.2⟩ | omega) (by first | exact ⟨by decide, by decide⟩ | omega) (by first | exact ⟨oq_c1e961c7 b4.1, oq_d526ebd3 b4.2⟩ | omega)) ⟨by rw [E.2.2.2]; exact (show (rmN 188).frames + 1 ≤ (rmN 218).frames by decide), by rw [E.2.2.2]; exact (show 8 + (mNL (miB 188) + 11) + (rmN 188).locals ≤ (rmN 218).locals by decide), by rw [E.2.2.2]; exact (show 0 + (rmN 188).cells ≤ (rmN 218).cells by decide), by rw [E.2.2.2]; exact (show 0 + (rmN 188).slots ≤ (rmN 218).slots by decide)⟩ (Nat.le_of_ble_eq_true rfl) (fun vv s5 hq => ?_) (fun ee s5 hq => ?_)
  rotate_left
  · obtain ⟨rfl, e6, hv, hrs5, hps5⟩ := hq; cases hv
  obtain ⟨rfl, e6, hv, hrs5, hps5⟩ := hq
  cases hv
  show WS k 17 [(0, .ref (A 179)), (1, .int (Int32.ofInt x)), (2, .int (Int32.ofInt y)), (3, .int (Int32.ofInt z)), (4, .int (Int32.ofInt w))] [.int (Int32.ofInt e6), .ref (A 179)] (Wd A dT s3) 0 0
  have N7 : ∀ e8 : Int, (((e6 ≠ 0) ∧ e8 = 0) ∨ ((e6 = 0) ∧ e8 = 1)) → WS k 25 [(0, .ref (A 179)), (1, .int (Int32.ofInt x)), (2, .int (Int32.ofInt y)), (3, .int (Int32.ofInt z)), (4, .int (Int32.ofInt w))] [.int (Int32.ofInt e8), .ref (A 179)] (Wd A dT s3) 0 0 := by
    intro e8 he8
    have re8 : 0 ≤ e8 ∧ e8 ≤ 1 := by omega
    refine z_const X (show cdA 218 25 = some (.iconst 1, 1, 0, 0, 0) from rfl) ?_
    refine z_callV X 179 (rm := rmN 187) (As := [.int (Int32.ofInt e8), .int (Int32.ofInt 1)]) (st := []) (show cdA 218 26 = some (.invokevirtual 229, 3, 187, 0, 0) from rfl) rfl (by decide) rfl (by rw [E.1, E.2.1, E.2.2.1]; exact k_bad2 G Is3 (by first | exact oq_31e518ae re8.2 re8.1 | omega) (by first | exact ⟨by decide, by decide⟩ | omega)) ⟨by rw [E.2.2.2]; exact (show (rmN 187).frames + 1 ≤ (rmN 218).frames by decide), by rw [E.2.2.2]; exact (show 8 + (mNL (miB 187) + 11) + (rmN 187).locals ≤ (rmN 218).locals by decide), by rw [E.2.2.2]; exact (show 0 + (rmN 187).cells ≤ (rmN 218).cells by decide), by rw [E.2.2.2]; exact (show 0 + (rmN 187).slots ≤ (rmN 218).slots by decide)⟩ (Nat.le_of_ble_eq_true rfl) (fun vv s9 hq => ?_) (fun ee s9 hq => ?_)
    rotate_left
    · obtain ⟨Is9, Fs9, e10, hv, hrs9, hps9⟩ := hq; cases hv
    obtain ⟨Is9, Fs9, e10, hv, hrs9, hps9⟩ := hq
    cases hv
    have Gs9 := fm_ts Fs3 Fs9 (by decide) (by decide)
    have b11 : (0 : Int) ≤ iI s9 73 ∧ iI s9 73 ≤ 3 := Is9.1 73
    have ws9_90 : iI s9 90 = iI s3 90 := fm_i Fs9 (by decide)
    have aws9_SMR : SMR s s9 := smr_ts aws3_SMR (smr_fm Fs9 (by decide))
    show WS k 29 [(0, .ref (A 179)), (1, .int (Int32.ofInt x)), (2, .int (Int32.ofInt y)), (3, .int (Int32.ofInt z)), (4, .int (Int32.ofInt w))] [.int (Int32.ofInt e10)] (Wd A dT s9) 0 0
    refine z_if_ne X (t := 81) (show cdA 218 29 = some (.ifCond .ne 52, 3, 1, 0, 0) from rfl) (by decide) hrs9 (fun g12 => ?_) (fun g12 => ?_)
    ·
      exact w_vret X.1 q hRt (ax_d X (show cdA 218 81 = some (.return_, 1, 0, 0, 0) from rfl)) (Nat.zero_le _) (Nat.zero_le _) ⟨_, rfl, Is9, Gs9, rfl, Or.inr (by first | exact Or.inl ⟨by omega, by omega, aws9_SMR⟩ | exact Or.inr ⟨by omega, by omega, by omega, by omega, aws9_SMR⟩)⟩
    ·
      refine z_aload_n X (x := A 179) (show cdA 218 32 = some (.aload_n 0, 1, 0, 0, 0) from rfl) (List.Mem.head _) ?_
      refine z_load_n X (x := y) (show cdA 218 33 = some (.iload_n 2, 1, 0, 0, 0) from rfl) (List.Mem.tail _ (List.Mem.tail _ (List.Mem.head _))) ?_
      refine z_const X (show cdA 218 34 = some (.iconst 0, 1, 0, 0, 0) from rfl) ?_
      refine z_bipush X (show cdA 218 35 = some (.bipush 23, 2, 0, 0, 23) from rfl) ?_
      refine z_callS X (rm := rmN 188) (As := [.int (Int32.ofInt y), .int (Int32.ofInt 0), .int (Int32.ofInt 23)]) (st := [.ref (A 179)]) (show cdA 218 37 = some (.invokestatic 209, 3, 188, 1, 0) from rfl) rfl (by rw [E.1, E.2.1, E.2.2.1]; exact k_in2 G Is9 (by first | exact ⟨p1.1, p1.2⟩ | omega) (by first | exact ⟨by decide, by decide⟩ | omega) (by first | exact ⟨by decide, by decide⟩ | omega)) ⟨by rw [E.2.2.2]; exact (show (rmN 188).frames + 1 ≤ (rmN 218).frames by decide), by rw [E.2.2.2]; exact (show 8 + (mNL (miB 188) + 11) + (rmN 188).locals ≤ (rmN 218).locals by decide), by rw [E.2.2.2]; exact (show 0 + (rmN 188).cells ≤ (rmN 218).cells by decide), by rw [E.2.2.2]; exact (show 0 + (rmN 188).slots ≤ (rmN 218).slots by decide)⟩ (Nat.le_of_ble_eq_true rfl) (fun vv s13 hq => ?_) (fun ee s13 hq => ?_)
      rotate_left
      · obtain ⟨rfl, e14, hv, hrs13, hps13⟩ := hq; cases hv
      obtain ⟨rfl, e14, hv, hrs13, hps13⟩ := hq
      cases hv
      show WS k 40 [(0, .ref (A 179)), (1, .int (Int32.ofInt x)), (2, .int (Int32.ofInt y)), (3, .int (Int32.ofInt z)), (4, .int (Int32.ofInt w))] [.int (Int32.ofInt e14), .ref (A 179)] (Wd A dT s9) 0 0
      refine z_if_eq X (t := 69) (show cdA 218 40 = some (.ifCond .eq 29, 3, 0, 0, 0) from rfl) (by decide) hrs13 (fun g15 => ?_) (fun g15 => ?_)
      ·
        refine z_const X (show cdA 218 69 = some (.iconst 1, 1, 0, 0, 0) from rfl) ?_
        refine z_goto X (t := 74) (show cdA 218 70 = some (.goto 4, 3, 0, 0, 0) from rfl) (by decide) ?_
        refine z_const X (show cdA 218 74 = some (.iconst 2, 1, 0, 0, 0) from rfl) ?_
        refine z_callV X 179 (rm := rmN 187) (As := [.int (Int32.ofInt 1), .int (Int32.ofInt 2)]) (st := []) (show cdA 218 75 = some (.invokevirtual 229, 3, 187, 0, 0) from rfl) rfl (by decide) rfl (by rw [E.1, E.2.1, E.2.2.1]; exact k_bad2 G Is9 (by first | exact Or.inr (by decide) | omega) (by first | exact ⟨by decide, by decide⟩ | omega)) ⟨by rw [E.2.2.2]; exact (show (rmN 187).frames + 1 ≤ (rmN 218).frames by decide), by rw [E.2.2.2]; exact (show 8 + (mNL (miB 187) + 11) + (rmN 187).locals ≤ (rmN 218).locals by decide), by rw [E.2.2.2]; exact (show 0 + (rmN 187).cells ≤ (rmN 218).cells by decide), by rw [E.2.2.2]; exact (show 0 + (rmN 187).slots ≤ (rmN 218).slots by decide)⟩ (Nat.le_of_ble_eq_true rfl) (fun vv s16 hq => ?_) (fun ee s16 hq => ?_)
        rotate_left
        · obtain ⟨Is16, Fs16, e17, hv, hrs16, hps16⟩ := hq; cases hv
        obtain ⟨Is16, Fs16, e17, hv, hrs16, hps16⟩ := hq
        cases hv
        have Gs16 := fm_ts Gs9 Fs16 (by decide) (by decide)
        have b18 : (0 : Int) ≤ iI s16 73 ∧ iI s16 73 ≤ 3 := Is16.1 73
        have ws16_90 : iI s16 90 = iI s9 90 := fm_i Fs16 (by decide)
        have aws16_SMR : SMR s s16 := smr_ts aws9_SMR (smr_fm Fs16 (by decide))
        show WS k 78 [(0, .ref (A 179)), (1, .int (Int32.ofInt x)), (2, .int (Int32.ofInt y)), (3, .int (Int32.ofInt z)), (4, .int (Int32.ofInt w))] [.int (Int32.ofInt e17)] (Wd A dT s16) 0 0
        refine z_if_eq X (t := 82) (show cdA 218 78 = some (.ifCond .eq 4, 3, 0, 0, 0) from rfl) (by decide) hrs16 (fun g19 => ?_) (fun g19 => ?_)
        ·
          refine z_load_n X (x := y) (show cdA 218 82 = some (.iload_n 2, 1, 0, 0, 0) from rfl) (List.Mem.tail _ (List.Mem.tail _ (List.Mem.head _))) ?_
          refine z_store X (lv' := [(5, .int (Int32.ofInt y)), (0, .ref (A 179)), (1, .int (Int32.ofInt x)), (2, .int (Int32.ofInt y)), (3, .int (Int32.ofInt z)), (4, .int (Int32.ofInt w))]) (show cdA 218 83 = some (.istore 5, 2, 0, 0, 0) from rfl) (by decide) (fun _ h => h) ?_
          refine WS_lv (lv := [(0, .ref (A 179)), (1, .int (Int32.ofInt x)), (3, .int (Int32.ofInt z)), (4, .int (Int32.ofInt w)), (5, .int (Int32.ofInt y))]) (List.forall_mem_cons.mpr ⟨(List.Mem.tail _ (List.Mem.head _)), (List.forall_mem_cons.mpr ⟨(List.Mem.tail _ (List.Mem.tail _ (List.Mem.head _))), (List.forall_mem_cons.mpr ⟨(List.Mem.tail _ (List.Mem.tail _ (List.Mem.tail _ (List.Mem.tail _ (List.Mem.head _))))), (List.forall_mem_cons.mpr ⟨(List.Mem.tail _ (List.Mem.tail _ (List.Mem.tail _ (List.Mem.tail _ (List.Mem.tail _ (List.Mem.head _)))))), (List.forall_mem_cons.mpr ⟨(List.Mem.head _), (fun q h => absurd h List.not_mem_nil)⟩)⟩)⟩)⟩)⟩) ?_
          refine L85 ((24 - y : Int).toNat + 1) s16 x z w y Is16 Gs16 (flu_sm aws16_SMR) (by first | exact ⟨oq_af21c3a9 g19 hps16 g12 b11.1 hps9 vs3, oq_39cb83a2 g19 hps16 g12 b11.1 hps9 vs3, oq_076d59f2 g19 hps16 g12 b11.1 hps9 vs3, oq_351fca93 g19 hps16 g12 b11.1 hps9 vs3, oq_8e25c494 g19 hps16 g12 b11.1 hps9 vs3, oq_50a02c5b g19 hps16 g12 b11.1 hps9 vs3, oq_852de6cf g19 hps16 g12 b11.1 hps9 vs3, oq_0568af07 g19 b18.1 hps16 g12 hps9 vs3⟩ | omega) (Nat.lt_succ_self _) ?_
          intro s20 x21 Is20 Fs20 Qs20 hs20
          have b22 : (0 : Int) ≤ iI s20 73 ∧ iI s20 73 ≤ 3 := Is20.1 73
          have b23 : (0 : Int) ≤ iI s20 90 ∧ iI s20 90 ≤ 12 := Is20.1 90
          exact w_vret X.1 q hRt (ax_d X (show cdA 218 108 = some (.return_, 1, 0, 0, 0) from rfl)) (Nat.zero_le _) (Nat.zero_le _) ⟨_, rfl, Is20, Fs20, rfl, Or.inl ⟨by first | exact hs20.1.2.1 | omega, by first | exact hs20.1.2.2.1 | omega, by first | exact hs20.1.2.2.2.1 | omega, by first | exact oq_943835ba hs20.1.2.2.2.2.1 hs20.1.2.2.2.2.2.1 | omega, by first | exact oq_12a1f9e1 hs20.1.2.2.2.2.1 hs20.1.2.2.2.1 | omega, by first | exact hs20.1.2.2.2.2.2.1 | omega, by first | exact hs20.1.2.2.2.2.1 | omega, by first | exact hs20.1.2.2.2.2.2.2.1 | omega, by first | exact hs20.1.2.2.2.2.2.2.2 | omega, by first | exact hs20.2 | omega, Qs20⟩⟩
        ·
          exact w_vret X.1 q hRt (ax_d X (show cdA 218 81 = some (.return_, 1, 0, 0, 0) from rfl)) (Nat.zero_le _) (Nat.zero_le _) ⟨_, rfl, Is16, Gs16, rfl, Or.inr (by first | exact Or.inl ⟨by omega, by omega, aws16_SMR⟩ | exact Or.inr ⟨by omega, by omega, by omega, by omega, aws16_SMR⟩)⟩
      ·
        refine z_load_n X (x := z) (show cdA 218 43 = some (.iload_n 3, 1, 0, 0, 0) from rfl) (List.Mem.tail _ (List.Mem.tail _ (List.Mem.tail _ (List.Mem.head _)))) ?_
        refine z_const X (show cdA 218 44 = some (.iconst 0, 1, 0, 0, 0) from rfl) ?_
        refine z_bipush X (show cdA 218 45 = some (.bipush 23, 2, 0, 0, 23) from rfl) ?_
        refine z_callS X (rm := rmN 188) (As := [.int (Int32.ofInt z), .int (Int32.ofInt 0), .int (Int32.ofInt 23)]) (st := [.ref (A 179)]) (show cdA 218 47 = some (.invokestatic 209, 3, 188, 1, 0) from rfl) rfl (by rw [E.1, E.2.1, E.2.2.1]; exact k_in2 G Is9 (by first | exact ⟨p2.1, p2.2⟩ | omega) (by first | exact ⟨by decide, by decide⟩ | omega) (by first | exact ⟨by decide, by decide⟩ | omega)) ⟨by rw [E.2.2.2]; exact (show (rmN 188).frames + 1 ≤ (rmN 218).frames by decide), by rw [E.2.2.2]; exact (show 8 + (mNL (miB 188) + 11) + (rmN 188).locals ≤ (rmN 218).locals by decide), by rw [E.2.2.2]; exact (show 0 + (rmN 188).cells ≤ (rmN 218).cells by decide), by rw [E.2.2.2]; exact (show 0 + (rmN 188).slots ≤ (rmN 218).slots by decide)⟩ (Nat.le_of_ble_eq_true rfl) (fun vv s24 hq => ?_) (fun ee s24 hq => ?_)
        rotate_left
        · obtain ⟨rfl, e25, hv, hrs24, hps24⟩ := hq; cases hv
        obtain ⟨rfl, e25, hv, hrs24, hps24⟩ := hq
        cases hv
        show WS k 50 [(0, .ref (A 179)), (1, .int (Int32.ofInt x)), (2, .int (Int32.ofInt y)), (3, .int (Int32.ofInt z)), (4, .int (Int32.ofInt w))] [.int (Int32.ofInt e25), .ref (A 179)] (Wd A dT s9) 0 0
        refine z_if_eq X (t := 69) (show cdA 218 50 = some (.ifCond .eq 19, 3, 0, 0, 0) from rfl) (by decide) hrs24 (fun g26 => ?_) (fun g26 => ?_)
        ·
          refine z_const X (show cdA 218 69 = some (.iconst 1, 1, 0, 0, 0) from rfl) ?_
          refine z_goto X (t := 74) (show cdA 218 70 = some (.goto 4, 3, 0, 0, 0) from rfl) (by decide) ?_
          refine z_const X (show cdA 218 74 = some (.iconst 2, 1, 0, 0, 0) from rfl) ?_
          refine z_callV X 179 (rm := rmN 187) (As := [.int (Int32.ofInt 1), .int (Int32.ofInt 2)]) (st := []) (show cdA 218 75 = some (.invokevirtual 229, 3, 187, 0, 0) from rfl) rfl (by decide) rfl (by rw [E.1, E.2.1, E.2.2.1]; exact k_bad2 G Is9 (by first | exact Or.inr (by decide) | omega) (by first | exact ⟨by decide, by decide⟩ | omega)) ⟨by rw [E.2.2.2]; exact (show (rmN 187).frames + 1 ≤ (rmN 218).frames by decide), by rw [E.2.2.2]; exact (show 8 + (mNL (miB 187) + 11) + (rmN 187).locals ≤ (rmN 218).locals by decide), by rw [E.2.2.2]; exact (show 0 + (rmN 187).cells ≤ (rmN 218).cells by decide), by rw [E.2.2.2]; exact (show 0 + (rmN 187).slots ≤ (rmN 218).slots by decide)⟩ (Nat.le_of_ble_eq_true rfl) (fun vv s27 hq => ?_) (fun ee s27 hq => ?_)
          rotate_left
          · obtain ⟨Is27, Fs27, e28, hv, hrs27, hps27⟩ := hq; cases hv
          obtain ⟨Is27, Fs27, e28, hv, hrs27, hps27⟩ := hq
          cases hv
          have Gs27 := fm_ts Gs9 Fs27 (by decide) (by decide)
          have b29 : (0 : Int) ≤ iI s27 73 ∧ iI s27 73 ≤ 3 := Is27.1 73
          have ws27_90 : iI s27 90 = iI s9 90 := fm_i Fs27 (by decide)
          have aws27_SMR : SMR s s27 := smr_ts aws9_SMR (smr_fm Fs27 (by decide))
          show WS k 78 [(0, .ref (A 179)), (1, .int (Int32.ofInt x)), (2, .int (Int32.ofInt y)), (3, .int (Int32.ofInt z)), (4, .int (Int32.ofInt w))] [.int (Int32.ofInt e28)] (Wd A dT s27) 0 0
          refine z_if_eq X (t := 82) (show cdA 218 78 = some (.ifCond .eq 4, 3, 0, 0, 0) from rfl) (by decide) hrs27 (fun g30 => ?_) (fun g30 => ?_)
          ·
            refine z_load_n X (x := y) (show cdA 218 82 = some (.iload_n 2, 1, 0, 0, 0) from rfl) (List.Mem.tail _ (List.Mem.tail _ (List.Mem.head _))) ?_
            refine z_store X (lv' := [(5, .int (Int32.ofInt y)), (0, .ref (A 179)), (1, .int (Int32.ofInt x)), (2, .int (Int32.ofInt y)), (3, .int (Int32.ofInt z)), (4, .int (Int32.ofInt w))]) (show cdA 218 83 = some (.istore 5, 2, 0, 0, 0) from rfl) (by decide) (fun _ h => h) ?_
            refine WS_lv (lv := [(0, .ref (A 179)), (1, .int (Int32.ofInt x)), (3, .int (Int32.ofInt z)), (4, .int (Int32.ofInt w)), (5, .int (Int32.ofInt y))]) (List.forall_mem_cons.mpr ⟨(List.Mem.tail _ (List.Mem.head _)), (List.forall_mem_cons.mpr ⟨(List.Mem.tail _ (List.Mem.tail _ (List.Mem.head _))), (List.forall_mem_cons.mpr ⟨(List.Mem.tail _ (List.Mem.tail _ (List.Mem.tail _ (List.Mem.tail _ (List.Mem.head _))))), (List.forall_mem_cons.mpr ⟨(List.Mem.tail _ (List.Mem.tail _ (List.Mem.tail _ (List.Mem.tail _ (List.Mem.tail _ (List.Mem.head _)))))), (List.forall_mem_cons.mpr ⟨(List.Mem.head _), (fun q h => absurd h List.not_mem_nil)⟩)⟩)⟩)⟩)⟩) ?_
            refine L85 ((24 - y : Int).toNat + 1) s27 x z w y Is27 Gs27 (flu_sm aws27_SMR) (by first | exact ⟨oq_af21c3a9 g30 hps27 g12 b11.1 hps9 vs3, oq_39cb83a2 g30 hps27 g12 b11.1 hps9 vs3, oq_076d59f2 g30 hps27 g12 b11.1 hps9 vs3, oq_351fca93 g30 hps27 g12 b11.1 hps9 vs3, oq_8e25c494 g30 hps27 g12 b11.1 hps9 vs3, oq_0159bb48 g15 hps13, oq_f518633a g15 hps13, oq_0568af07 g30 b29.1 hps27 g12 hps9 vs3⟩ | omega) (Nat.lt_succ_self _) ?_
            intro s31 x32 Is31 Fs31 Qs31 hs31
            have b33 : (0 : Int) ≤ iI s31 73 ∧ iI s31 73 ≤ 3 := Is31.1 73
            have b34 : (0 : Int) ≤ iI s31 90 ∧ iI s31 90 ≤ 12 := Is31.1 90
            exact w_vret X.1 q hRt (ax_d X (show cdA 218 108 = some (.return_, 1, 0, 0, 0) from rfl)) (Nat.zero_le _) (Nat.zero_le _) ⟨_, rfl, Is31, Fs31, rfl, Or.inl ⟨by first | exact hs31.1.2.1 | omega, by first | exact hs31.1.2.2.1 | omega, by first | exact hs31.1.2.2.2.1 | omega, by first | exact oq_943835ba hs31.1.2.2.2.2.1 hs31.1.2.2.2.2.2.1 | omega, by first | exact oq_12a1f9e1 hs31.1.2.2.2.2.1 hs31.1.2.2.2.1 | omega, by first | exact hs31.1.2.2.2.2.2.1 | omega, by first | exact hs31.1.2.2.2.2.1 | omega, by first | exact hs31.1.2.2.2.2.2.2.1 | omega, by first | exact hs31.1.2.2.2.2.2.2.2 | omega, by first | exact hs31.2 | omega, Qs31⟩⟩
          ·
            exact w_vret X.1 q hRt (ax_d X (show cdA 218 81 = some (.return_, 1, 0, 0, 0) from rfl)) (Nat.zero_le _) (Nat.zero_le _) ⟨_, rfl, Is27, Gs27, rfl, Or.inr (by first | exact Or.inl ⟨by omega, by omega, aws27_SMR⟩ | exact Or.inr ⟨by omega, by omega, by omega, by omega, aws27_SMR⟩)⟩
        ·
          refine z_load_n X (x := y) (show cdA 218 53 = some (.iload_n 2, 1, 0, 0, 0) from rfl) (List.Mem.tail _ (List.Mem.tail _ (List.Mem.head _))) ?_
          refine z_load_n X (x := z) (show cdA 218 54 = some (.iload_n 3, 1, 0, 0, 0) from rfl) (List.Mem.tail _ (List.Mem.tail _ (List.Mem.tail _ (List.Mem.head _)))) ?_
          refine z_icmp_gt X (t := 69) (show cdA 218 55 = some (.if_icmp .gt 14, 3, 4, 0, 0) from rfl) (by decide) ⟨by first | exact p1.1 | omega, by first | exact p1.2 | omega⟩ ⟨by first | exact p2.1 | omega, by first | exact p2.2 | omega⟩ (fun g35 => ?_) (fun g35 => ?_)
          ·
            refine z_const X (show cdA 218 69 = some (.iconst 1, 1, 0, 0, 0) from rfl) ?_
            refine z_goto X (t := 74) (show cdA 218 70 = some (.goto 4, 3, 0, 0, 0) from rfl) (by decide) ?_
            refine z_const X (show cdA 218 74 = some (.iconst 2, 1, 0, 0, 0) from rfl) ?_
            refine z_callV X 179 (rm := rmN 187) (As := [.int (Int32.ofInt 1), .int (Int32.ofInt 2)]) (st := []) (show cdA 218 75 = some (.invokevirtual 229, 3, 187, 0, 0) from rfl) rfl (by decide) rfl (by rw [E.1, E.2.1, E.2.2.1]; exact k_bad2 G Is9 (by first | exact Or.inr (by decide) | omega) (by first | exact ⟨by decide, by decide⟩ | omega)) ⟨by rw [E.2.2.2]; exact (show (rmN 187).frames + 1 ≤ (rmN 218).frames by decide), by rw [E.2.2.2]; exact (show 8 + (mNL (miB 187) + 11) + (rmN 187).locals ≤ (rmN 218).locals by decide), by rw [E.2.2.2]; exact (show 0 + (rmN 187).cells ≤ (rmN 218).cells by decide), by rw [E.2.2.2]; exact (show 0 + (rmN 187).slots ≤ (rmN 218).slots by decide)⟩ (Nat.le_of_ble_eq_true rfl) (fun vv s36 hq => ?_) (fun ee s36 hq => ?_)
            rotate_left
            · obtain ⟨Is36, Fs36, e37, hv, hrs36, hps36⟩ := hq; cases hv
            obtain ⟨Is36, Fs36, e37, hv, hrs36, hps36⟩ := hq
            cases hv
            have Gs36 := fm_ts Gs9 Fs36 (by decide) (by decide)
            have b38 : (0 : Int) ≤ iI s36 73 ∧ iI s36 73 ≤ 3 := Is36.1 73
            have ws36_90 : iI s36 90 = iI s9 90 := fm_i Fs36 (by decide)
            have aws36_SMR : SMR s s36 := smr_ts aws9_SMR (smr_fm Fs36 (by decide))
            show WS k 78 [(0, .ref (A 179)), (1, .int (Int32.ofInt x)), (2, .int (Int32.ofInt y)), (3, .int (Int32.ofInt z)), (4, .int (Int32.ofInt w))] [.int (Int32.ofInt e37)] (Wd A dT s36) 0 0
            refine z_if_eq X (t := 82) (show cdA 218 78 = some (.ifCond .eq 4, 3, 0, 0, 0) from rfl) (by decide) hrs36 (fun g39 => ?_) (fun g39 => ?_)
            ·
              refine z_load_n X (x := y) (show cdA 218 82 = some (.iload_n 2, 1, 0, 0, 0) from rfl) (List.Mem.tail _ (List.Mem.tail _ (List.Mem.head _))) ?_
              refine z_store X (lv' := [(5, .int (Int32.ofInt y)), (0, .ref (A 179)), (1, .int (Int32.ofInt x)), (2, .int (Int32.ofInt y)), (3, .int (Int32.ofInt z)), (4, .int (Int32.ofInt w))]) (show cdA 218 83 = some (.istore 5, 2, 0, 0, 0) from rfl) (by decide) (fun _ h => h) ?_
              refine WS_lv (lv := [(0, .ref (A 179)), (1, .int (Int32.ofInt x)), (3, .int (Int32.ofInt z)), (4, .int (Int32.ofInt w)), (5, .int (Int32.ofInt y))]) (List.forall_mem_cons.mpr ⟨(List.Mem.tail _ (List.Mem.head _)), (List.forall_mem_cons.mpr ⟨(List.Mem.tail _ (List.Mem.tail _ (List.Mem.head _))), (List.forall_mem_cons.mpr ⟨(List.Mem.tail _ (List.Mem.tail _ (List.Mem.tail _ (List.Mem.tail _ (List.Mem.head _))))), (List.forall_mem_cons.mpr ⟨(List.Mem.tail _ (List.Mem.tail _ (List.Mem.tail _ (List.Mem.tail _ (List.Mem.tail _ (List.Mem.head _)))))), (List.forall_mem_cons.mpr ⟨(List.Mem.head _), (fun q h => absurd h List.not_mem_nil)⟩)⟩)⟩)⟩)⟩) ?_
              refine L85 ((24 - y : Int).toNat + 1) s36 x z w y Is36 Gs36 (flu_sm aws36_SMR) (by first | exact ⟨oq_af21c3a9 g39 hps36 g12 b11.1 hps9 vs3, oq_39cb83a2 g39 hps36 g12 b11.1 hps9 vs3, oq_076d59f2 g39 hps36 g12 b11.1 hps9 vs3, oq_71c16c0e g35 g26 hps24 g15 hps13, oq_8e25c494 g39 hps36 g12 b11.1 hps9 vs3, oq_043ce32e g35 g26 hps24, oq_f518633a g15 hps13, oq_0568af07 g39 b38.1 hps36 g12 hps9 vs3⟩ | omega) (Nat.lt_succ_self _) ?_
              intro s40 x41 Is40 Fs40 Qs40 hs40
              have b42 : (0 : Int) ≤ iI s40 73 ∧ iI s40 73 ≤ 3 := Is40.1 73
              have b43 : (0 : Int) ≤ iI s40 90 ∧ iI s40 90 ≤ 12 := Is40.1 90
              exact w_vret X.1 q hRt (ax_d X (show cdA 218 108 = some (.return_, 1, 0, 0, 0) from rfl)) (Nat.zero_le _) (Nat.zero_le _) ⟨_, rfl, Is40, Fs40, rfl, Or.inl ⟨by first | exact hs40.1.2.1 | omega, by first | exact hs40.1.2.2.1 | omega, by first | exact hs40.1.2.2.2.1 | omega, by first | exact oq_943835ba hs40.1.2.2.2.2.1 hs40.1.2.2.2.2.2.1 | omega, by first | exact oq_12a1f9e1 hs40.1.2.2.2.2.1 hs40.1.2.2.2.1 | omega, by first | exact hs40.1.2.2.2.2.2.1 | omega, by first | exact hs40.1.2.2.2.2.1 | omega, by first | exact hs40.1.2.2.2.2.2.2.1 | omega, by first | exact hs40.1.2.2.2.2.2.2.2 | omega, by first | exact hs40.2 | omega, Qs40⟩⟩
            ·
              exact w_vret X.1 q hRt (ax_d X (show cdA 218 81 = some (.return_, 1, 0, 0, 0) from rfl)) (Nat.zero_le _) (Nat.zero_le _) ⟨_, rfl, Is36, Gs36, rfl, Or.inr (by first | exact Or.inl ⟨by omega, by omega, aws36_SMR⟩ | exact Or.inr ⟨by omega, by omega, by omega, by omega, aws36_SMR⟩)⟩
          ·
            refine z_load X (x := w) (show cdA 218 58 = some (.iload 4, 2, 0, 0, 0) from rfl) (List.Mem.tail _ (List.Mem.tail _ (List.Mem.tail _ (List.Mem.tail _ (List.Mem.head _))))) ?_
            refine z_const X (show cdA 218 60 = some (.iconst 0, 1, 0, 0, 0) from rfl) ?_
            refine z_bipush X (show cdA 218 61 = some (.bipush 50, 2, 0, 0, 50) from rfl) ?_
            refine z_callS X (rm := rmN 188) (As := [.int (Int32.ofInt w), .int (Int32.ofInt 0), .int (Int32.ofInt 50)]) (st := [.ref (A 179)]) (show cdA 218 63 = some (.invokestatic 209, 3, 188, 1, 0) from rfl) rfl (by rw [E.1, E.2.1, E.2.2.1]; exact k_in2 G Is9 (by first | exact ⟨p3.1, p3.2⟩ | omega) (by first | exact ⟨by decide, by decide⟩ | omega) (by first | exact ⟨by decide, by decide⟩ | omega)) ⟨by rw [E.2.2.2]; exact (show (rmN 188).frames + 1 ≤ (rmN 218).frames by decide), by rw [E.2.2.2]; exact (show 8 + (mNL (miB 188) + 11) + (rmN 188).locals ≤ (rmN 218).locals by decide), by rw [E.2.2.2]; exact (show 0 + (rmN 188).cells ≤ (rmN 218).cells by decide), by rw [E.2.2.2]; exact (show 0 + (rmN 188).slots ≤ (rmN 218).slots by decide)⟩ (Nat.le_of_ble_eq_true rfl) (fun vv s44 hq => ?_) (fun ee s44 hq => ?_)
            rotate_left
            · obtain ⟨rfl, e45, hv, hrs44, hps44⟩ := hq; cases hv
            obtain ⟨rfl, e45, hv, hrs44, hps44⟩ := hq
            cases hv
            show WS k 66 [(0, .ref (A 179)), (1, .int (Int32.ofInt x)), (2, .int (Int32.ofInt y)), (3, .int (Int32.ofInt z)), (4, .int (Int32.ofInt w))] [.int (Int32.ofInt e45), .ref (A 179)] (Wd A dT s9) 0 0
            have N46 : ∀ e47 : Int, (((e45 ≠ 0) ∧ e47 = 0) ∨ ((e45 = 0) ∧ e47 = 1)) → WS k 74 [(0, .ref (A 179)), (1, .int (Int32.ofInt x)), (2, .int (Int32.ofInt y)), (3, .int (Int32.ofInt z)), (4, .int (Int32.ofInt w))] [.int (Int32.ofInt e47), .ref (A 179)] (Wd A dT s9) 0 0 := by
              intro e47 he47
              have re47 : 0 ≤ e47 ∧ e47 ≤ 1 := by omega
              refine z_const X (show cdA 218 74 = some (.iconst 2, 1, 0, 0, 0) from rfl) ?_
              refine z_callV X 179 (rm := rmN 187) (As := [.int (Int32.ofInt e47), .int (Int32.ofInt 2)]) (st := []) (show cdA 218 75 = some (.invokevirtual 229, 3, 187, 0, 0) from rfl) rfl (by decide) rfl (by rw [E.1, E.2.1, E.2.2.1]; exact k_bad2 G Is9 (by first | exact oq_31e518ae re47.2 re47.1 | omega) (by first | exact ⟨by decide, by decide⟩ | omega)) ⟨by rw [E.2.2.2]; exact (show (rmN 187).frames + 1 ≤ (rmN 218).frames by decide), by rw [E.2.2.2]; exact (show 8 + (mNL (miB 187) + 11) + (rmN 187).locals ≤ (rmN 218).locals by decide), by rw [E.2.2.2]; exact (show 0 + (rmN 187).cells ≤ (rmN 218).cells by decide), by rw [E.2.2.2]; exact (show 0 + (rmN 187).slots ≤ (rmN 218).slots by decide)⟩ (Nat.le_of_ble_eq_true rfl) (fun vv s48 hq => ?_) (fun ee s48 hq => ?_)
              rotate_left
              · obtain ⟨Is48, Fs48, e49, hv, hrs48, hps48⟩ := hq; cases hv
              obtain ⟨Is48, Fs48, e49, hv, hrs48, hps48⟩ := hq
              cases hv
              have Gs48 := fm_ts Gs9 Fs48 (by decide) (by decide)
              have b50 : (0 : Int) ≤ iI s48 73 ∧ iI s48 73 ≤ 3 := Is48.1 73
              have ws48_90 : iI s48 90 = iI s9 90 := fm_i Fs48 (by decide)
              have aws48_SMR : SMR s s48 := smr_ts aws9_SMR (smr_fm Fs48 (by decide))
              show WS k 78 [(0, .ref (A 179)), (1, .int (Int32.ofInt x)), (2, .int (Int32.ofInt y)), (3, .int (Int32.ofInt z)), (4, .int (Int32.ofInt w))] [.int (Int32.ofInt e49)] (Wd A dT s48) 0 0
              refine z_if_eq X (t := 82) (show cdA 218 78 = some (.ifCond .eq 4, 3, 0, 0, 0) from rfl) (by decide) hrs48 (fun g51 => ?_) (fun g51 => ?_)
              ·
                refine z_load_n X (x := y) (show cdA 218 82 = some (.iload_n 2, 1, 0, 0, 0) from rfl) (List.Mem.tail _ (List.Mem.tail _ (List.Mem.head _))) ?_
                refine z_store X (lv' := [(5, .int (Int32.ofInt y)), (0, .ref (A 179)), (1, .int (Int32.ofInt x)), (2, .int (Int32.ofInt y)), (3, .int (Int32.ofInt z)), (4, .int (Int32.ofInt w))]) (show cdA 218 83 = some (.istore 5, 2, 0, 0, 0) from rfl) (by decide) (fun _ h => h) ?_
                refine WS_lv (lv := [(0, .ref (A 179)), (1, .int (Int32.ofInt x)), (3, .int (Int32.ofInt z)), (4, .int (Int32.ofInt w)), (5, .int (Int32.ofInt y))]) (List.forall_mem_cons.mpr ⟨(List.Mem.tail _ (List.Mem.head _)), (List.forall_mem_cons.mpr ⟨(List.Mem.tail _ (List.Mem.tail _ (List.Mem.head _))), (List.forall_mem_cons.mpr ⟨(List.Mem.tail _ (List.Mem.tail _ (List.Mem.tail _ (List.Mem.tail _ (List.Mem.head _))))), (List.forall_mem_cons.mpr ⟨(List.Mem.tail _ (List.Mem.tail _ (List.Mem.tail _ (List.Mem.tail _ (List.Mem.tail _ (List.Mem.head _)))))), (List.forall_mem_cons.mpr ⟨(List.Mem.head _), (fun q h => absurd h List.not_mem_nil)⟩)⟩)⟩)⟩)⟩) ?_
                refine L85 ((24 - y : Int).toNat + 1) s48 x z w y Is48 Gs48 (flu_sm aws48_SMR) (by omega) (Nat.lt_succ_self _) ?_
                intro s52 x53 Is52 Fs52 Qs52 hs52
                have b54 : (0 : Int) ≤ iI s52 73 ∧ iI s52 73 ≤ 3 := Is52.1 73
                have b55 : (0 : Int) ≤ iI s52 90 ∧ iI s52 90 ≤ 12 := Is52.1 90
                exact w_vret X.1 q hRt (ax_d X (show cdA 218 108 = some (.return_, 1, 0, 0, 0) from rfl)) (Nat.zero_le _) (Nat.zero_le _) ⟨_, rfl, Is52, Fs52, rfl, Or.inl ⟨by first | exact hs52.1.2.1 | omega, by first | exact hs52.1.2.2.1 | omega, by first | exact hs52.1.2.2.2.1 | omega, by first | exact oq_943835ba hs52.1.2.2.2.2.1 hs52.1.2.2.2.2.2.1 | omega, by first | exact oq_12a1f9e1 hs52.1.2.2.2.2.1 hs52.1.2.2.2.1 | omega, by first | exact hs52.1.2.2.2.2.2.1 | omega, by first | exact hs52.1.2.2.2.2.1 | omega, by first | exact hs52.1.2.2.2.2.2.2.1 | omega, by first | exact hs52.1.2.2.2.2.2.2.2 | omega, by first | exact hs52.2 | omega, Qs52⟩⟩
              ·
                exact w_vret X.1 q hRt (ax_d X (show cdA 218 81 = some (.return_, 1, 0, 0, 0) from rfl)) (Nat.zero_le _) (Nat.zero_le _) ⟨_, rfl, Is48, Gs48, rfl, Or.inr (by first | exact Or.inl ⟨by omega, by omega, aws48_SMR⟩ | exact Or.inr ⟨by omega, by omega, by omega, by omega, aws48_SMR⟩)⟩
            refine z_if_ne X (t := 73) (show cdA 218 66 = some (.ifCond .ne 7, 3, 1, 0, 0) from rfl) (by decide) hrs44 (fun g56 => ?_) (fun g56 => ?_)
            ·
              refine z_const X (show cdA 218 73 = some (.iconst 0, 1, 0, 0, 0) from rfl) ?_
              exact N46 _ (Or.inl ⟨g56, rfl⟩)
            ·
              refine z_const X (show cdA 218 69 = some (.iconst 1, 1, 0, 0, 0) from rfl) ?_
              refine z_goto X (t := 74) (show cdA 218 70 = some (.goto 4, 3, 0, 0, 0) from rfl) (by decide) ?_
              exact N46 _ (Or.inr (⟨g56, rfl⟩))
  refine z_if_ne X (t := 24) (show cdA 218 17 = some (.ifCond .ne 7, 3, 1, 0, 0) from rfl) (by decide) hrs5 (fun g57 => ?_) (fun g57 => ?_)
  ·
    refine z_const X (show cdA 218 24 = some (.iconst 0, 1, 0, 0, 0) from rfl) ?_
    exact N7 _ (Or.inl ⟨g57, rfl⟩)
  ·
    refine z_const X (show cdA 218 20 = some (.iconst 1, 1, 0, 0, 0) from rfl) ?_
    refine z_goto X (t := 25) (show cdA 218 21 = some (.goto 4, 3, 0, 0, 0) from rfl) (by decide) ?_
    exact N7 _ (Or.inr (⟨g57, rfl⟩))
set_option maxRecDepth 4000 in
theorem k_span3 (G : GX l s0 D tys a0 dT) (I : Bd s) {x y z : Int} (p0 : rng x) (p1 : rng y) (p2 : rng z) : CT l s0 D A dT 219 (rmN 219) [.ref (A 179), .int (Int32.ofInt x), .int (Int32.ofInt y), .int (Int32.ofInt z)] s (fun o t => Bd t ∧ Fm [73] [163, 164] s t ∧ o = .inl none ∧ ((0 ≤ x ∧ x < iI s 90 ∧ 0 ≤ y ∧ y ≤ 2 ∧ 0 ≤ z ∧ z ≤ 2 ∧ iI t 73 = 0 ∧ UPD 163 x y s t ∧ UPD 164 x z s t) ∨ ((x < 0 ∨ iI s 90 ≤ x) ∧ iI t 73 = 1 ∧ SAM 163 s t ∧ SAM 164 s t) ∨ (0 ≤ x ∧ x < iI s 90 ∧ (y < 0 ∨ 2 < y ∨ z < 0 ∨ 2 < z) ∧ iI t 73 = 2 ∧ SAM 163 s t ∧ SAM 164 s t))) := by
  refine ct_of G (by decide) (Nat.le_of_ble_eq_true rfl) (fun k X E hRt hXt q => ?_)
  show WS k 0 [(0, .ref (A 179)), (1, .int (Int32.ofInt x)), (2, .int (Int32.ofInt y)), (3, .int (Int32.ofInt z))] [] _ 0 0
  have F : Fm [73] [163, 164] s s := fm_rf _ _ s
  have aw0_163 : SAM 163 s s := sam_rf
  have aw0_164 : SAM 164 s s := sam_rf
  have b1 : (0 : Int) ≤ iI s 73 ∧ iI s 73 ≤ 3 := I.1 73
  have b2 : (0 : Int) ≤ iI s 90 ∧ iI s 90 ≤ 12 := I.1 90
  refine z_aload_n X (x := A 179) (show cdA 219 0 = some (.aload_n 0, 1, 0, 0, 0) from rfl) (List.Mem.head _) ?_
  refine z_const X (show cdA 219 1 = some (.iconst 0, 1, 0, 0, 0) from rfl) ?_
  refine s_putI X 179 (show cdA 219 2 = some (.putfield 172, 3, 12, 0, 0) from rfl) (by decide) rfl rfl (by decide) rfl rfl rfl ?_
  obtain ⟨s3, hs3⟩ : ∃ x0, x0 = uI s 73 (Int32.ofInt 0) := ⟨_, rfl⟩
  rw [← hs3]
  have Is3 : Bd s3 := by rw [hs3]; exact bd_I I (show (0 : Int) ≤ 0 ∧ 0 ≤ 3 by first | exact ⟨by decide, by decide⟩ | omega) (by decide)
  have Fs3 := fm_I (x := Int32.ofInt 0) F (show 73 ∈ _ by decide)
  rw [← hs3] at Fs3
  have vs3 : iI s3 73 = 0 := by rw [hs3]; exact iI_u (by decide)
  have ws3_90 : iI s3 90 = iI s 90 := by rw [hs3]; rfl
  have aws3_163 : SAM 163 s s3 := by rw [hs3]; exact aw0_163
  have aws3_164 : SAM 164 s s3 := by rw [hs3]; exact aw0_164
  refine z_aload_n X (x := A 179) (show cdA 219 5 = some (.aload_n 0, 1, 0, 0, 0) from rfl) (List.Mem.head _) ?_
  refine z_load_n X (x := x) (show cdA 219 6 = some (.iload_n 1, 1, 0, 0, 0) from rfl) (List.Mem.tail _ (List.Mem.head _)) ?_
  refine z_const X (show cdA 219 7 = some (.iconst 0, 1, 0, 0, 0) from rfl) ?_
  refine z_aload_n X (x := A 179) (show cdA 219 8 = some (.aload_n 0, 1, 0, 0, 0) from rfl) (List.Mem.head _) ?_
  refine z_getI X 179 (show cdA 219 9 = some (.getfield 233, 3, 12, 22, 0) from rfl) (by decide) rfl rfl ?_
  have b4 : (0 : Int) ≤ iI s3 90 ∧ iI s3 90 ≤ 12 := Is3.1 90
  refine z_const X (show cdA 219 12 = some (.iconst 1, 1, 0, 0, 0) from rfl) ?_
  refine z_sub X (show cdA 219 13 = some (.isub, 1, 0, 0, 0) from rfl) ?_
  refine z_callS X (rm := rmN 188) (As := [.int (Int32.ofInt x), .int (Int32.ofInt 0), .int (Int32.ofInt ((iI s3 90) - 1))]) (st := [.ref (A 179)]) (show cdA 219 14 = some (.invokestatic 209, 3, 188, 1, 0) from rfl) rfl (by rw [E.1, E.2.1, E.2.2.1]; exact k_in2 G Is3 (by first | exact ⟨p0.1, p0.2⟩ | omega) (by first | exact ⟨by decide, by decide⟩ | omega) (by first | exact ⟨oq_c1e961c7 b4.1, oq_d526ebd3 b4.2⟩ | omega)) ⟨by rw [E.2.2.2]; exact (show (rmN 188).frames + 1 ≤ (rmN 219).frames by decide), by rw [E.2.2.2]; exact (show 8 + (mNL (miB 188) + 11) + (rmN 188).locals ≤ (rmN 219).locals by decide), by rw [E.2.2.2]; exact (show 0 + (rmN 188).cells ≤ (rmN 219).cells by decide), by rw [E.2.2.2]; exact (show 0 + (rmN 188).slots ≤ (rmN 219).slots by decide)⟩ (Nat.le_of_ble_eq_true rfl) (fun vv s5 hq => ?_) (fun ee s5 hq => ?_)
  rotate_left
  · obtain ⟨rfl, e6, hv, hrs5, hps5⟩ := hq; cases hv
  obtain ⟨rfl, e6, hv, hrs5, hps5⟩ := hq
  cases hv
  show WS k 17 [(0, .ref (A 179)), (1, .int (Int32.ofInt x)), (2, .int (Int32.ofInt y)), (3, .int (Int32.ofInt z))] [.int (Int32.ofInt e6), .ref (A 179)] (Wd A dT s3) 0 0
  have N7 : ∀ e8 : Int, (((e6 ≠ 0) ∧ e8 = 0) ∨ ((e6 = 0) ∧ e8 = 1)) → WS k 25 [(0, .ref (A 179)), (1, .int (Int32.ofInt x)), (2, .int (Int32.ofInt y)), (3, .int (Int32.ofInt z))] [.int (Int32.ofInt e8), .ref (A 179)] (Wd A dT s3) 0 0 := by
    intro e8 he8
    have re8 : 0 ≤ e8 ∧ e8 ≤ 1 := by omega
    refine z_const X (show cdA 219 25 = some (.iconst 1, 1, 0, 0, 0) from rfl) ?_
    refine z_callV X 179 (rm := rmN 187) (As := [.int (Int32.ofInt e8), .int (Int32.ofInt 1)]) (st := []) (show cdA 219 26 = some (.invokevirtual 229, 3, 187, 0, 0) from rfl) rfl (by decide) rfl (by rw [E.1, E.2.1, E.2.2.1]; exact k_bad2 G Is3 (by first | exact oq_31e518ae re8.2 re8.1 | omega) (by first | exact ⟨by decide, by decide⟩ | omega)) ⟨by rw [E.2.2.2]; exact (show (rmN 187).frames + 1 ≤ (rmN 219).frames by decide), by rw [E.2.2.2]; exact (show 8 + (mNL (miB 187) + 11) + (rmN 187).locals ≤ (rmN 219).locals by decide), by rw [E.2.2.2]; exact (show 0 + (rmN 187).cells ≤ (rmN 219).cells by decide), by rw [E.2.2.2]; exact (show 0 + (rmN 187).slots ≤ (rmN 219).slots by decide)⟩ (Nat.le_of_ble_eq_true rfl) (fun vv s9 hq => ?_) (fun ee s9 hq => ?_)
    rotate_left
    · obtain ⟨Is9, Fs9, e10, hv, hrs9, hps9⟩ := hq; cases hv
    obtain ⟨Is9, Fs9, e10, hv, hrs9, hps9⟩ := hq
    cases hv
    have Gs9 := fm_ts Fs3 Fs9 (by decide) (by decide)
    have b11 : (0 : Int) ≤ iI s9 73 ∧ iI s9 73 ≤ 3 := Is9.1 73
    have ws9_90 : iI s9 90 = iI s3 90 := fm_i Fs9 (by decide)
    have aws9_163 : SAM 163 s s9 := sam_ts aws3_163 (sam_fm Fs9 (by decide))
    have aws9_164 : SAM 164 s s9 := sam_ts aws3_164 (sam_fm Fs9 (by decide))
    show WS k 29 [(0, .ref (A 179)), (1, .int (Int32.ofInt x)), (2, .int (Int32.ofInt y)), (3, .int (Int32.ofInt z))] [.int (Int32.ofInt e10)] (Wd A dT s9) 0 0
    refine z_if_ne X (t := 63) (show cdA 219 29 = some (.ifCond .ne 34, 3, 1, 0, 0) from rfl) (by decide) hrs9 (fun g12 => ?_) (fun g12 => ?_)
    ·
      exact w_vret X.1 q hRt (ax_d X (show cdA 219 63 = some (.return_, 1, 0, 0, 0) from rfl)) (Nat.zero_le _) (Nat.zero_le _) ⟨_, rfl, Is9, Gs9, rfl, Or.inr (by first | exact Or.inl ⟨by omega, by omega, aws9_163, aws9_164⟩ | exact Or.inr ⟨by omega, by omega, by omega, by omega, aws9_163, aws9_164⟩)⟩
    ·
      refine z_aload_n X (x := A 179) (show cdA 219 32 = some (.aload_n 0, 1, 0, 0, 0) from rfl) (List.Mem.head _) ?_
      refine z_load_n X (x := y) (show cdA 219 33 = some (.iload_n 2, 1, 0, 0, 0) from rfl) (List.Mem.tail _ (List.Mem.tail _ (List.Mem.head _))) ?_
      refine z_const X (show cdA 219 34 = some (.iconst 0, 1, 0, 0, 0) from rfl) ?_
      refine z_const X (show cdA 219 35 = some (.iconst 2, 1, 0, 0, 0) from rfl) ?_
      refine z_callS X (rm := rmN 188) (As := [.int (Int32.ofInt y), .int (Int32.ofInt 0), .int (Int32.ofInt 2)]) (st := [.ref (A 179)]) (show cdA 219 36 = some (.invokestatic 209, 3, 188, 1, 0) from rfl) rfl (by rw [E.1, E.2.1, E.2.2.1]; exact k_in2 G Is9 (by first | exact ⟨p1.1, p1.2⟩ | omega) (by first | exact ⟨by decide, by decide⟩ | omega) (by first | exact ⟨by decide, by decide⟩ | omega)) ⟨by rw [E.2.2.2]; exact (show (rmN 188).frames + 1 ≤ (rmN 219).frames by decide), by rw [E.2.2.2]; exact (show 8 + (mNL (miB 188) + 11) + (rmN 188).locals ≤ (rmN 219).locals by decide), by rw [E.2.2.2]; exact (show 0 + (rmN 188).cells ≤ (rmN 219).cells by decide), by rw [E.2.2.2]; exact (show 0 + (rmN 188).slots ≤ (rmN 219).slots by decide)⟩ (Nat.le_of_ble_eq_true rfl) (fun vv s13 hq => ?_) (fun ee s13 hq => ?_)
      rotate_left
      · obtain ⟨rfl, e14, hv, hrs13, hps13⟩ := hq; cases hv
      obtain ⟨rfl, e14, hv, hrs13, hps13⟩ := hq
      cases hv
      show WS k 39 [(0, .ref (A 179)), (1, .int (Int32.ofInt x)), (2, .int (Int32.ofInt y)), (3, .int (Int32.ofInt z))] [.int (Int32.ofInt e14), .ref (A 179)] (Wd A dT s9) 0 0
      refine z_if_eq X (t := 51) (show cdA 219 39 = some (.ifCond .eq 12, 3, 0, 0, 0) from rfl) (by decide) hrs13 (fun g15 => ?_) (fun g15 => ?_)
      ·
        refine z_const X (show cdA 219 51 = some (.iconst 1, 1, 0, 0, 0) from rfl) ?_
        refine z_goto X (t := 56) (show cdA 219 52 = some (.goto 4, 3, 0, 0, 0) from rfl) (by decide) ?_
        refine z_const X (show cdA 219 56 = some (.iconst 2, 1, 0, 0, 0) from rfl) ?_
        refine z_callV X 179 (rm := rmN 187) (As := [.int (Int32.ofInt 1), .int (Int32.ofInt 2)]) (st := []) (show cdA 219 57 = some (.invokevirtual 229, 3, 187, 0, 0) from rfl) rfl (by decide) rfl (by rw [E.1, E.2.1, E.2.2.1]; exact k_bad2 G Is9 (by first | exact Or.inr (by decide) | omega) (by first | exact ⟨by decide, by decide⟩ | omega)) ⟨by rw [E.2.2.2]; exact (show (rmN 187).frames + 1 ≤ (rmN 219).frames by decide), by rw [E.2.2.2]; exact (show 8 + (mNL (miB 187) + 11) + (rmN 187).locals ≤ (rmN 219).locals by decide), by rw [E.2.2.2]; exact (show 0 + (rmN 187).cells ≤ (rmN 219).cells by decide), by rw [E.2.2.2]; exact (show 0 + (rmN 187).slots ≤ (rmN 219).slots by decide)⟩ (Nat.le_of_ble_eq_true rfl) (fun vv s16 hq => ?_) (fun ee s16 hq => ?_)
        rotate_left
        · obtain ⟨Is16, Fs16, e17, hv, hrs16, hps16⟩ := hq; cases hv
        obtain ⟨Is16, Fs16, e17, hv, hrs16, hps16⟩ := hq
        cases hv
        have Gs16 := fm_ts Gs9 Fs16 (by decide) (by decide)
        have b18 : (0 : Int) ≤ iI s16 73 ∧ iI s16 73 ≤ 3 := Is16.1 73
        have ws16_90 : iI s16 90 = iI s9 90 := fm_i Fs16 (by decide)
        have aws16_163 : SAM 163 s s16 := sam_ts aws9_163 (sam_fm Fs16 (by decide))
        have aws16_164 : SAM 164 s s16 := sam_ts aws9_164 (sam_fm Fs16 (by decide))
        show WS k 60 [(0, .ref (A 179)), (1, .int (Int32.ofInt x)), (2, .int (Int32.ofInt y)), (3, .int (Int32.ofInt z))] [.int (Int32.ofInt e17)] (Wd A dT s16) 0 0
        refine z_if_eq X (t := 64) (show cdA 219 60 = some (.ifCond .eq 4, 3, 0, 0, 0) from rfl) (by decide) hrs16 (fun g19 => ?_) (fun g19 => ?_)
        ·
          refine z_aload_n X (x := A 179) (show cdA 219 64 = some (.aload_n 0, 1, 0, 0, 0) from rfl) (List.Mem.head _) ?_
          refine s_getR X 179 (show cdA 219 65 = some (.getfield 38, 3, 12, 24, 0) from rfl) (by decide) rfl rfl ?_
          refine z_load_n X (x := x) (show cdA 219 68 = some (.iload_n 1, 1, 0, 0, 0) from rfl) (List.Mem.tail _ (List.Mem.head _)) ?_
          refine z_load_n X (x := y) (show cdA 219 69 = some (.iload_n 2, 1, 0, 0, 0) from rfl) (List.Mem.tail _ (List.Mem.tail _ (List.Mem.head _))) ?_
          refine z_ast X 186 (show cdA 219 70 = some (.iastore, 1, 0, 0, 0) from rfl) (by decide) rfl (by first | exact oq_50a02c5b g19 hps16 g12 b11.1 hps9 vs3 | omega) (show x < 12 by first | exact oq_b915df81 g19 hps16 g12 b11.1 hps9 vs3 | omega) (by decide) ?_
          obtain ⟨s20, hs20⟩ : ∃ x0, x0 = uC s16 163 (x).toNat (Int32.ofInt y) := ⟨_, rfl⟩
          rw [← hs20]
          have Is20 : Bd s20 := by rw [hs20]; exact bd_C Is16 (show (0 : Int) ≤ y ∧ y ≤ 2 by first | exact ⟨oq_50a02c5b g19 hps16 g12 b11.1 hps9 vs3, oq_b78e71ae g19 hps16 g12 b11.1 hps9 vs3⟩ | omega) ⟨by first | exact p1.1 | omega, by first | exact p1.2 | omega⟩
          have Fs20 := fm_C (i := (x).toNat) (x := Int32.ofInt y) Gs16 (show 163 ∈ _ by decide)
          rw [← hs20] at Fs20
          have ws20_73 : iI s20 73 = iI s16 73 := by rw [hs20]; rfl
          have ws20_90 : iI s20 90 = iI s16 90 := by rw [hs20]; rfl
          have aws20_163 : UPD 163 (x) y s s20 := by rw [hs20]; exact upd_put aws16_163 ⟨by first | exact p1.1 | omega, by first | exact p1.2 | omega⟩
          have aws20_164 : SAM 164 s s20 := by rw [hs20]; exact sam_C (by decide) aws16_164
          refine z_aload_n X (x := A 179) (show cdA 219 71 = some (.aload_n 0, 1, 0, 0, 0) from rfl) (List.Mem.head _) ?_
          refine s_getR X 179 (show cdA 219 72 = some (.getfield 41, 3, 12, 25, 0) from rfl) (by decide) rfl rfl ?_
          refine z_load_n X (x := x) (show cdA 219 75 = some (.iload_n 1, 1, 0, 0, 0) from rfl) (List.Mem.tail _ (List.Mem.head _)) ?_
          refine z_load_n X (x := z) (show cdA 219 76 = some (.iload_n 3, 1, 0, 0, 0) from rfl) (List.Mem.tail _ (List.Mem.tail _ (List.Mem.tail _ (List.Mem.head _)))) ?_
          refine z_ast X 187 (show cdA 219 77 = some (.iastore, 1, 0, 0, 0) from rfl) (by decide) rfl (by first | exact oq_50a02c5b g19 hps16 g12 b11.1 hps9 vs3 | omega) (show x < 12 by first | exact oq_b915df81 g19 hps16 g12 b11.1 hps9 vs3 | omega) (by decide) ?_
          obtain ⟨s21, hs21⟩ : ∃ x0, x0 = uC s20 164 (x).toNat (Int32.ofInt z) := ⟨_, rfl⟩
          rw [← hs21]
          have Is21 : Bd s21 := by rw [hs21]; exact bd_C Is20 (show (0 : Int) ≤ z ∧ z ≤ 2 by first | exact ⟨oq_50a02c5b g19 hps16 g12 b11.1 hps9 vs3, oq_b78e71ae g19 hps16 g12 b11.1 hps9 vs3⟩ | omega) ⟨by first | exact p2.1 | omega, by first | exact p2.2 | omega⟩
          have Fs21 := fm_C (i := (x).toNat) (x := Int32.ofInt z) Fs20 (show 164 ∈ _ by decide)
          rw [← hs21] at Fs21
          have ws21_73 : iI s21 73 = iI s20 73 := by rw [hs21]; rfl
          have ws21_90 : iI s21 90 = iI s20 90 := by rw [hs21]; rfl
          have aws21_163 : UPD 163 (x) y s s21 := by rw [hs21]; exact upd_C (by decide) aws20_163
          have aws21_164 : UPD 164 (x) z s s21 := by rw [hs21]; exact upd_put aws20_164 ⟨by first | exact p2.1 | omega, by first | exact p2.2 | omega⟩
          exact w_vret X.1 q hRt (ax_d X (show cdA 219 78 = some (.return_, 1, 0, 0, 0) from rfl)) (Nat.zero_le _) (Nat.zero_le _) ⟨_, rfl, Is21, Fs21, rfl, Or.inl ⟨by first | exact oq_50a02c5b g19 hps16 g12 b11.1 hps9 vs3 | omega, by first | exact oq_8ce8240a g19 hps16 g12 b11.1 hps9 vs3 | omega, by first | exact oq_50a02c5b g19 hps16 g12 b11.1 hps9 vs3 | omega, by first | exact oq_b78e71ae g19 hps16 g12 b11.1 hps9 vs3 | omega, by first | exact oq_50a02c5b g19 hps16 g12 b11.1 hps9 vs3 | omega, by first | exact oq_b78e71ae g19 hps16 g12 b11.1 hps9 vs3 | omega, by first | exact oq_52fdae6d ws21_73 ws20_73 g19 b18.1 hps16 g12 hps9 vs3 | omega, aws21_163, aws21_164⟩⟩
        ·
          exact w_vret X.1 q hRt (ax_d X (show cdA 219 63 = some (.return_, 1, 0, 0, 0) from rfl)) (Nat.zero_le _) (Nat.zero_le _) ⟨_, rfl, Is16, Gs16, rfl, Or.inr (by first | exact Or.inl ⟨by omega, by omega, aws16_163, aws16_164⟩ | exact Or.inr ⟨by omega, by omega, by omega, by omega, aws16_163, aws16_164⟩)⟩
      ·
        refine z_load_n X (x := z) (show cdA 219 42 = some (.iload_n 3, 1, 0, 0, 0) from rfl) (List.Mem.tail _ (List.Mem.tail _ (List.Mem.tail _ (List.Mem.head _)))) ?_
        refine z_const X (show cdA 219 43 = some (.iconst 0, 1, 0, 0, 0) from rfl) ?_
        refine z_const X (show cdA 219 44 = some (.iconst 2, 1, 0, 0, 0) from rfl) ?_
        refine z_callS X (rm := rmN 188) (As := [.int (Int32.ofInt z), .int (Int32.ofInt 0), .int (Int32.ofInt 2)]) (st := [.ref (A 179)]) (show cdA 219 45 = some (.invokestatic 209, 3, 188, 1, 0) from rfl) rfl (by rw [E.1, E.2.1, E.2.2.1]; exact k_in2 G Is9 (by first | exact ⟨p2.1, p2.2⟩ | omega) (by first | exact ⟨by decide, by decide⟩ | omega) (by first | exact ⟨by decide, by decide⟩ | omega)) ⟨by rw [E.2.2.2]; exact (show (rmN 188).frames + 1 ≤ (rmN 219).frames by decide), by rw [E.2.2.2]; exact (show 8 + (mNL (miB 188) + 11) + (rmN 188).locals ≤ (rmN 219).locals by decide), by rw [E.2.2.2]; exact (show 0 + (rmN 188).cells ≤ (rmN 219).cells by decide), by rw [E.2.2.2]; exact (show 0 + (rmN 188).slots ≤ (rmN 219).slots by decide)⟩ (Nat.le_of_ble_eq_true rfl) (fun vv s22 hq => ?_) (fun ee s22 hq => ?_)
        rotate_left
        · obtain ⟨rfl, e23, hv, hrs22, hps22⟩ := hq; cases hv
        obtain ⟨rfl, e23, hv, hrs22, hps22⟩ := hq
        cases hv
        show WS k 48 [(0, .ref (A 179)), (1, .int (Int32.ofInt x)), (2, .int (Int32.ofInt y)), (3, .int (Int32.ofInt z))] [.int (Int32.ofInt e23), .ref (A 179)] (Wd A dT s9) 0 0
        have N24 : ∀ e25 : Int, (((e23 ≠ 0) ∧ e25 = 0) ∨ ((e23 = 0) ∧ e25 = 1)) → WS k 56 [(0, .ref (A 179)), (1, .int (Int32.ofInt x)), (2, .int (Int32.ofInt y)), (3, .int (Int32.ofInt z))] [.int (Int32.ofInt e25), .ref (A 179)] (Wd A dT s9) 0 0 := by
          intro e25 he25
          have re25 : 0 ≤ e25 ∧ e25 ≤ 1 := by omega
          refine z_const X (show cdA 219 56 = some (.iconst 2, 1, 0, 0, 0) from rfl) ?_
          refine z_callV X 179 (rm := rmN 187) (As := [.int (Int32.ofInt e25), .int (Int32.ofInt 2)]) (st := []) (show cdA 219 57 = some (.invokevirtual 229, 3, 187, 0, 0) from rfl) rfl (by decide) rfl (by rw [E.1, E.2.1, E.2.2.1]; exact k_bad2 G Is9 (by first | exact oq_31e518ae re25.2 re25.1 | omega) (by first | exact ⟨by decide, by decide⟩ | omega)) ⟨by rw [E.2.2.2]; exact (show (rmN 187).frames + 1 ≤ (rmN 219).frames by decide), by rw [E.2.2.2]; exact (show 8 + (mNL (miB 187) + 11) + (rmN 187).locals ≤ (rmN 219).locals by decide), by rw [E.2.2.2]; exact (show 0 + (rmN 187).cells ≤ (rmN 219).cells by decide), by rw [E.2.2.2]; exact (show 0 + (rmN 187).slots ≤ (rmN 219).slots by decide)⟩ (Nat.le_of_ble_eq_true rfl) (fun vv s26 hq => ?_) (fun ee s26 hq => ?_)
          rotate_left
          · obtain ⟨Is26, Fs26, e27, hv, hrs26, hps26⟩ := hq; cases hv
          obtain ⟨Is26, Fs26, e27, hv, hrs26, hps26⟩ := hq
          cases hv
          have Gs26 := fm_ts Gs9 Fs26 (by decide) (by decide)
          have b28 : (0 : Int) ≤ iI s26 73 ∧ iI s26 73 ≤ 3 := Is26.1 73
          have ws26_90 : iI s26 90 = iI s9 90 := fm_i Fs26 (by decide)
          have aws26_163 : SAM 163 s s26 := sam_ts aws9_163 (sam_fm Fs26 (by decide))
          have aws26_164 : SAM 164 s s26 := sam_ts aws9_164 (sam_fm Fs26 (by decide))
          show WS k 60 [(0, .ref (A 179)), (1, .int (Int32.ofInt x)), (2, .int (Int32.ofInt y)), (3, .int (Int32.ofInt z))] [.int (Int32.ofInt e27)] (Wd A dT s26) 0 0
          refine z_if_eq X (t := 64) (show cdA 219 60 = some (.ifCond .eq 4, 3, 0, 0, 0) from rfl) (by decide) hrs26 (fun g29 => ?_) (fun g29 => ?_)
          ·
            refine z_aload_n X (x := A 179) (show cdA 219 64 = some (.aload_n 0, 1, 0, 0, 0) from rfl) (List.Mem.head _) ?_
            refine s_getR X 179 (show cdA 219 65 = some (.getfield 38, 3, 12, 24, 0) from rfl) (by decide) rfl rfl ?_
            refine z_load_n X (x := x) (show cdA 219 68 = some (.iload_n 1, 1, 0, 0, 0) from rfl) (List.Mem.tail _ (List.Mem.head _)) ?_
            refine z_load_n X (x := y) (show cdA 219 69 = some (.iload_n 2, 1, 0, 0, 0) from rfl) (List.Mem.tail _ (List.Mem.tail _ (List.Mem.head _))) ?_
            refine z_ast X 186 (show cdA 219 70 = some (.iastore, 1, 0, 0, 0) from rfl) (by decide) rfl (by omega) (show x < 12 by omega) (by decide) ?_
            obtain ⟨s30, hs30⟩ : ∃ x0, x0 = uC s26 163 (x).toNat (Int32.ofInt y) := ⟨_, rfl⟩
            rw [← hs30]
            have Is30 : Bd s30 := by rw [hs30]; exact bd_C Is26 (show (0 : Int) ≤ y ∧ y ≤ 2 by first | exact ⟨oq_ed86839e g15 hps13, oq_1e4f7caf g15 hps13⟩ | omega) ⟨by first | exact p1.1 | omega, by first | exact p1.2 | omega⟩
            have Fs30 := fm_C (i := (x).toNat) (x := Int32.ofInt y) Gs26 (show 163 ∈ _ by decide)
            rw [← hs30] at Fs30
            have ws30_73 : iI s30 73 = iI s26 73 := by rw [hs30]; rfl
            have ws30_90 : iI s30 90 = iI s26 90 := by rw [hs30]; rfl
            have aws30_163 : UPD 163 (x) y s s30 := by rw [hs30]; exact upd_put aws26_163 ⟨by first | exact p1.1 | omega, by first | exact p1.2 | omega⟩
            have aws30_164 : SAM 164 s s30 := by rw [hs30]; exact sam_C (by decide) aws26_164
            refine z_aload_n X (x := A 179) (show cdA 219 71 = some (.aload_n 0, 1, 0, 0, 0) from rfl) (List.Mem.head _) ?_
            refine s_getR X 179 (show cdA 219 72 = some (.getfield 41, 3, 12, 25, 0) from rfl) (by decide) rfl rfl ?_
            refine z_load_n X (x := x) (show cdA 219 75 = some (.iload_n 1, 1, 0, 0, 0) from rfl) (List.Mem.tail _ (List.Mem.head _)) ?_
            refine z_load_n X (x := z) (show cdA 219 76 = some (.iload_n 3, 1, 0, 0, 0) from rfl) (List.Mem.tail _ (List.Mem.tail _ (List.Mem.tail _ (List.Mem.head _)))) ?_
            refine z_ast X 187 (show cdA 219 77 = some (.iastore, 1, 0, 0, 0) from rfl) (by decide) rfl (by first | exact oq_b1e4434e g12 hps9 he8 hps5 vs3 | omega) (show x < 12 by first | exact oq_00fd1383 g12 hps9 he8 hps5 b4.2 vs3 | omega) (by decide) ?_
            obtain ⟨s31, hs31⟩ : ∃ x0, x0 = uC s30 164 (x).toNat (Int32.ofInt z) := ⟨_, rfl⟩
            rw [← hs31]
            have Is31 : Bd s31 := by rw [hs31]; exact bd_C Is30 (show (0 : Int) ≤ z ∧ z ≤ 2 by first | exact ⟨oq_69fe46bc g29 hps26 he25 hps22 g12 b11.1 hps9 vs3, oq_bf244170 g29 hps26 he25 hps22 g12 b11.1 hps9 vs3⟩ | omega) ⟨by first | exact p2.1 | omega, by first | exact p2.2 | omega⟩
            have Fs31 := fm_C (i := (x).toNat) (x := Int32.ofInt z) Fs30 (show 164 ∈ _ by decide)
            rw [← hs31] at Fs31
            have ws31_73 : iI s31 73 = iI s30 73 := by rw [hs31]; rfl
            have ws31_90 : iI s31 90 = iI s30 90 := by rw [hs31]; rfl
            have aws31_163 : UPD 163 (x) y s s31 := by rw [hs31]; exact upd_C (by decide) aws30_163
            have aws31_164 : UPD 164 (x) z s s31 := by rw [hs31]; exact upd_put aws30_164 ⟨by first | exact p2.1 | omega, by first | exact p2.2 | omega⟩
            exact w_vret X.1 q hRt (ax_d X (show cdA 219 78 = some (.return_, 1, 0, 0, 0) from rfl)) (Nat.zero_le _) (Nat.zero_le _) ⟨_, rfl, Is31, Fs31, rfl, Or.inl ⟨by omega, by omega, by first | exact oq_ed86839e g15 hps13 | omega, by first | exact oq_1e4f7caf g15 hps13 | omega, by first | exact oq_69fe46bc g29 hps26 he25 hps22 g12 b11.1 hps9 vs3 | omega, by first | exact oq_bf244170 g29 hps26 he25 hps22 g12 b11.1 hps9 vs3 | omega, by first | exact oq_4548e717 ws31_73 ws30_73 g29 b28.1 hps26 g12 hps9 vs3 | omega, aws31_163, aws31_164⟩⟩
          ·
            exact w_vret X.1 q hRt (ax_d X (show cdA 219 63 = some (.return_, 1, 0, 0, 0) from rfl)) (Nat.zero_le _) (Nat.zero_le _) ⟨_, rfl, Is26, Gs26, rfl, Or.inr (by first | exact Or.inl ⟨by omega, by omega, aws26_163, aws26_164⟩ | exact Or.inr ⟨by omega, by omega, by omega, by omega, aws26_163, aws26_164⟩)⟩
        refine z_if_ne X (t := 55) (show cdA 219 48 = some (.ifCond .ne 7, 3, 1, 0, 0) from rfl) (by decide) hrs22 (fun g32 => ?_) (fun g32 => ?_)
        ·
          refine z_const X (show cdA 219 55 = some (.iconst 0, 1, 0, 0, 0) from rfl) ?_
          exact N24 _ (Or.inl ⟨g32, rfl⟩)
        ·
          refine z_const X (show cdA 219 51 = some (.iconst 1, 1, 0, 0, 0) from rfl) ?_
          refine z_goto X (t := 56) (show cdA 219 52 = some (.goto 4, 3, 0, 0, 0) from rfl) (by decide) ?_
          exact N24 _ (Or.inr (⟨g32, rfl⟩))
  refine z_if_ne X (t := 24) (show cdA 219 17 = some (.ifCond .ne 7, 3, 1, 0, 0) from rfl) (by decide) hrs5 (fun g33 => ?_) (fun g33 => ?_)
  ·
    refine z_const X (show cdA 219 24 = some (.iconst 0, 1, 0, 0, 0) from rfl) ?_
    exact N7 _ (Or.inl ⟨g33, rfl⟩)
  ·
    refine z_const X (show cdA 219 20 = some (.iconst 1, 1, 0, 0, 0) from rfl) ?_
    refine z_goto X (t := 25) (show cdA 219 21 = some (.goto 4, 3, 0, 0, 0) from rfl) (by decide) ?_
    exact N7 _ (Or.inr (⟨g33, rfl⟩))
end M87d
