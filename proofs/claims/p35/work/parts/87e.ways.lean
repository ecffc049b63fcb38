/-! Ways: what class and model keep of them -/
/-- cells copied from array b0 to b1 -/
def CPY (b0 b1 n1 : Nat) (sp dp n : Int) (s t : PS) : Prop := ∀ j : Nat, j < n1 → iC t b1 j = if dp.toNat ≤ j ∧ j < dp.toNat + n.toNat then iC s b0 (sp.toNat + (j - dp.toNat)) else iC s b1 j
section ZC
variable {k : kx_T} {mn pc : Nat} {A : Nat → Nat} {dT : Nat → ClassId} {s : PS} {lv : List (Nat × Value)} {st : List Value} {ce sl a : Nat} {z : Int}
theorem z_copyF (X : AX k mn dT) (I : Bd s) (c0 c1 : Nat) {idx n0 n1 b0 b1 : Nat} {sp dp n : Int} (h : cdA mn pc = some (.invokestatic idx, 3, a, 5, z)) (hc0 : c0 < 518) (hc1 : c1 < 518) (hb0 : bsS c0 = .inl (0, n0, .inr (0, 0, b0))) (hb1 : bsS c1 = .inl (0, n1, .inr (0, 0, b1))) (hs : 0 ≤ sp ∧ sp ≤ 100000) (hd : 0 ≤ dp ∧ dp ≤ 100000) (hn : 0 ≤ n ∧ n ≤ 100000) (h4 : sp + n ≤ n0) (h5 : dp + n ≤ n1) (hA : (bA b1).1 ≤ (bA b0).1 ∧ (bA b0).2.1 ≤ (bA b1).2.1 ∧ (bA b0).2.2 = n0 ∧ (bA b1).2.2 = n1)
    (hf : 1 ≤ (kR k).frames) (hlo : (st.map fun v => v.category).sum + 40 ≤ (kR k).locals) (g : ∀ t : PS, Bd t → Fm [] [b1] s t → CPY b0 b1 n1 sp dp n s t → WS k (pc + 3) lv st (Wd A dT t) ce sl) : WS k pc lv (.int (Int32.ofInt n) :: .int (Int32.ofInt dp) :: .ref (A c1) :: .int (Int32.ofInt sp) :: .ref (A c0) :: st) (Wd A dT s) ce sl := by
  have hq := (ax_r X h).2.2
  rcases hq with ⟨-, w1, w2, w3, w4⟩ | ⟨q, -⟩ | ⟨q, -⟩ | ⟨q, -⟩
  · obtain ⟨m1, m2⟩ := nat_of hs.1 hs.2
    obtain ⟨m3, m4⟩ := nat_of hd.1 hd.2
    obtain ⟨m5, m6⟩ := nat_of hn.1 hn.2
    have w40 : nativeFrameWords "java/lang/System" "arraycopy" 5 + 11 ≤ 40 := by decide +kernel
    refine w_copyi X.1 (q0 := c0) (q1 := c1) (by rw [X.2.1.2.1]; exact w1) w2 w3 w4 (get_C (Or.inl rfl) hc0 hb0) (get_C (Or.inl rfl) hc1 hb1) (X.2.2.1 0) m1 m3 m5 (by rw [m2, m6]; omega) (by rw [m4, m6]; omega) hf (by omega) (ax_d X h) ?_
    rw [m2, m4, m6]
    rw [put_stC hc1 hb1 (fun j hj => by
      unfold va_cpy
      rw [if_neg (by omega)]
      show (if j < n1 then gC s b1 j else 0) = 0
      rw [if_neg (by omega)])]
    refine g _ ⟨fun q => I.1 q, fun c j hj => ?_⟩ ⟨fun _ _ => rfl, fun c hc => ?_, rfl, fun _ _ => rfl, fun _ _ => rfl⟩ (fun j hj => ?_)
    · by_cases e : c = b1
      · subst e
        have e1 : gC (stC s c (va_cpy (fun j => if j < n0 then gC s b0 j else 0) (fun j => if j < n1 then gC s c j else 0) sp.toNat dp.toNat n.toNat)) c j = va_cpy (fun j => if j < n0 then gC s b0 j else 0) (fun j => if j < n1 then gC s c j else 0) sp.toNat dp.toNat n.toNat j := by
          unfold gC stC
          exact congrFun (if_pos rfl) j
        show (bA c).1 ≤ (gC (stC s c _) c j).toInt ∧ (gC (stC s c _) c j).toInt ≤ (bA c).2.1
        rw [e1]
        unfold va_cpy
        by_cases r : dp.toNat ≤ j ∧ j < dp.toNat + n.toNat
        · rw [if_pos r]
          show (bA c).1 ≤ (if sp.toNat + (j - dp.toNat) < n0 then gC s b0 (sp.toNat + (j - dp.toNat)) else 0).toInt ∧ (if sp.toNat + (j - dp.toNat) < n0 then gC s b0 (sp.toNat + (j - dp.toNat)) else 0).toInt ≤ (bA c).2.1
          rw [if_pos (by omega)]
          have := I.2 b0 (sp.toNat + (j - dp.toNat)) (by rw [hA.2.2.1]; omega)
          exact ⟨Int.le_trans hA.1 this.1, Int.le_trans this.2 hA.2.1⟩
        · rw [if_neg r]
          show (bA c).1 ≤ (if j < n1 then gC s c j else 0).toInt ∧ (if j < n1 then gC s c j else 0).toInt ≤ (bA c).2.1
          rw [if_pos (by rw [hA.2.2.2] at hj; exact hj)]
          exact I.2 c j hj
      · have e1 : gC (stC s b1 (va_cpy (fun j => if j < n0 then gC s b0 j else 0) (fun j => if j < n1 then gC s b1 j else 0) sp.toNat dp.toNat n.toNat)) c j = gC s c j := by
          unfold gC stC
          exact congrFun (if_neg e) j
        show (bA c).1 ≤ (gC (stC s b1 _) c j).toInt ∧ (gC (stC s b1 _) c j).toInt ≤ (bA c).2.1
        rw [e1]
        exact I.2 c j hj
    · show (if c = b1 then _ else s.2.2.1 c) = _
      rw [if_neg (fun q => hc (by rw [q]; exact List.mem_singleton_self _))]
    · have e1 : gC (stC s b1 (va_cpy (fun j => if j < n0 then gC s b0 j else 0) (fun j => if j < n1 then gC s b1 j else 0) sp.toNat dp.toNat n.toNat)) b1 j = va_cpy (fun j => if j < n0 then gC s b0 j else 0) (fun j => if j < n1 then gC s b1 j else 0) sp.toNat dp.toNat n.toNat j := by
        unfold gC stC
        exact congrFun (if_pos rfl) j
      show (gC (stC s b1 _) b1 j).toInt = _
      rw [e1]
      unfold va_cpy
      by_cases r : dp.toNat ≤ j ∧ j < dp.toNat + n.toNat
      · rw [if_pos r, if_pos r]
        show (if sp.toNat + (j - dp.toNat) < n0 then gC s b0 (sp.toNat + (j - dp.toNat)) else 0).toInt = _
        rw [if_pos (by omega)]
      · rw [if_neg r, if_neg r]
        show (if j < n1 then gC s b1 j else 0).toInt = _
        rw [if_pos hj]
  · cases q
  · cases q
  · rcases q with q | q <;> cases q
end ZC
/-- the class has laid a way of w cells as its x-th -/
def CWF (x w : Int) (s t : PS) : Prop := (∀ j : Nat, j < 288 → iC t 1 j = if (x * 24).toNat ≤ j ∧ j < (x * 24).toNat + w.toNat then iC s 15 (j - (x * 24).toNat) else iC s 1 j) ∧ UPD 2 x w s t
theorem cwf_of {x w z : Int} {s u t : PS} (c : CPY 15 1 288 z (x * 24) w s u) (hz : z = 0) (h : SAM 1 u t) (h0 : SAM 2 s u) (g : UPD 2 x w u t) : CWF x w s t := by
  subst hz
  refine ⟨fun j hj => ?_, g.1, fun j hj => (g.2 j hj).trans (h0 j)⟩
  rw [h, c j hj, show (0 : Int).toNat + (j - (x * 24).toNat) = j - (x * 24).toNat from Nat.zero_add _]
theorem cwf_sam {x w : Int} {s t u : PS} (c : CWF x w s t) (h1 : SAM 1 t u) (h2 : SAM 2 t u) : CWF x w s u := ⟨fun j hj => by rw [h1]; exact c.1 j hj, upd_ts c.2 h2⟩
/-- what the class has of ways behind a stream's text -/
def WNC (B : Nat → Int) (w : Int) (s t : PS) : Prop := (iI t 9 = iI s 9 ∧ SAM 1 s t ∧ SAM 2 s t) ∨ ∃ a : WyA, parseT B w = some a ∧ iI t 9 = iI s 9 + 1 ∧ (1 ≤ a.1 ∧ a.1 ≤ 24) ∧ (∀ k : Nat, (k : Int) < a.1 → iC t 1 ((iI s 9 * 24).toNat + k) = a.2 k) ∧ iC t 2 (iI s 9).toNat = a.1 ∧ (∀ j : Nat, j < (iI s 9 * 24).toNat → iC t 1 j = iC s 1 j) ∧ ∀ j : Nat, j < (iI s 9).toNat → iC t 2 j = iC s 2 j
theorem wnc_of {B : Nat → Int} {w x y : Int} {s u t : PS} (hp : ∃ a, parseT B w = some a ∧ AGx 15 11 a u ∧ 1 ≤ a.1 ∧ a.1 ≤ 24) (c : CWF x y u t) (hx : x = iI s 9) (hy : y = iI u 11) (h0 : 0 ≤ x ∧ x ≤ 11) (h1 : SAM 1 s u) (h2 : SAM 2 s u) (hc : iI t 9 = iI s 9 + 1) : WNC B w s t := by
  obtain ⟨a, p1, p2, p3⟩ := hp
  subst hx
  refine Or.inr ⟨a, p1, hc, p3, fun k hk => ?_, ?_, fun j hj => ?_, fun j hj => ?_⟩
  · have e1 := p2.1
    rw [c.1 _ (by omega), if_pos (by omega), p2.2 k hk]
    congr 1
    omega
  · rw [c.2.1, hy, p2.1]
  · rw [c.1 _ (by omega), if_neg (by omega), h1]
  · rw [c.2.2 j (by omega), h2]
theorem wnc_sam {B : Nat → Int} {w : Int} {s t u : PS} (h : WNC B w s t) (h1 : SAM 1 t u) (h2 : SAM 2 t u) (h3 : iI u 9 = iI t 9) : WNC B w s u := by
  rcases h with ⟨q1, q2, q3⟩ | ⟨a, q1, q2, q3, q4, q5, q6, q7⟩
  · exact Or.inl ⟨h3.trans q1, sam_ts q2 h1, sam_ts q3 h2⟩
  · exact Or.inr ⟨a, q1, h3.trans q2, q3, fun k hk => (h1 _).trans (q4 k hk), (h2 _).trans q5, fun j hj => (h1 _).trans (q6 j hj), fun j hj => (h2 _).trans (q7 j hj)⟩
/-- the model's ways are as they were -/
def SWM (s t : PS) : Prop := SAM 162 s t ∧ ∀ r j : Nat, r < 12 → iC t (166 + r) j = iC s (166 + r) j ∧ iC t (178 + r) j = iC s (178 + r) j
theorem swm_rf {s : PS} : SWM s s := ⟨sam_rf, fun _ _ _ => ⟨rfl, rfl⟩⟩
theorem swm_ts {s t u : PS} (h : SWM s t) (g : SWM t u) : SWM s u := ⟨sam_ts h.1 g.1, fun r j hr => ⟨(g.2 r j hr).1.trans (h.2 r j hr).1, (g.2 r j hr).2.trans (h.2 r j hr).2⟩⟩
theorem swm_fm {L M : List Nat} {s t : PS} (F : Fm L M s t) (h : 162 ∉ M ∧ ∀ j, j < 12 → 166 + j ∉ M ∧ 178 + j ∉ M) : SWM s t := ⟨sam_fm F h.1, fun r j hr => ⟨fm_c F (h.2 r hr).1, fm_c F (h.2 r hr).2⟩⟩
/-- the model's row n while it is filled: ways and places of cells below c are there -/
def WFM (B : Nat → Int) (x n c : Int) (s t : PS) : Prop := ∃ a : WyA, parseT B x = some a ∧ AGx 165 91 a t ∧ (1 ≤ a.1 ∧ a.1 ≤ 24) ∧ iC t 162 n.toNat = a.1 ∧ (∀ j : Nat, j < n.toNat → iC t 162 j = iC s 162 j) ∧ (∀ r j : Nat, r < n.toNat → iC t (166 + r) j = iC s (166 + r) j ∧ iC t (178 + r) j = iC s (178 + r) j) ∧ (∀ k : Nat, (k : Int) < c → (k : Int) < a.1 → iC t (166 + n.toNat) k = a.2 k)
/-- the places: all below i are none; or those of the cells below c -/
def LFN (n i : Int) (t : PS) : Prop := ∀ j : Nat, (j : Int) < i → iC t (178 + n.toNat) j = -1
def LFP (B : Nat → Int) (x n c : Int) (t : PS) : Prop := ∀ a : WyA, parseT B x = some a → ∀ j : Nat, j < 128 → (iC t (178 + n.toNat) j = -1 ∧ ∀ k : Nat, (k : Int) < c → (k : Int) < a.1 → a.2 k ≠ (j : Int)) ∨ ∃ k : Nat, (k : Int) < c ∧ (k : Int) < a.1 ∧ a.2 k = (j : Int) ∧ iC t (178 + n.toNat) j = (k : Int)
theorem wfm_0 {B : Nat → Int} {x n : Int} {s t u : PS} {v : Int32} (hp : ∃ a, parseT B x = some a ∧ AGx 165 91 a t ∧ (1 ≤ a.1 ∧ a.1 ≤ 24)) (h : SWM s t) (hn : 0 ≤ n ∧ n ≤ 11) (hv : v = Int32.ofInt (iI t 91)) (hu : u = uC t 162 n.toNat v) (hb : iI t 91 ≤ 24) : WFM B x n 0 s u := by
  obtain ⟨a, p1, p2, p3⟩ := hp
  have e1 := p2.1
  subst hu hv
  refine ⟨a, p1, ag_sam p2 (fun j => iC_a (by decide)) rfl, p3, ?_, fun j hj => ?_, fun r j hr => ⟨?_, ?_⟩, fun k hk => by omega⟩
  · rw [iC_u ⟨by omega, by omega⟩, e1]
  · rw [iC_n (by omega)]; exact h.1 j
  · rw [iC_a (by omega)]; exact (h.2 r j (by omega)).1
  · rw [iC_a (by omega)]; exact (h.2 r j (by omega)).2
theorem wfm_li {B : Nat → Int} {x n c m : Int} {s t : PS} {i : Nat} {v : Int32} (h : WFM B x n c s t) (hm : m = n) (hn : 0 ≤ n ∧ n ≤ 11) : WFM B x n c s (uC t (178 + m.toNat) i v) := by
  subst hm
  obtain ⟨a, p1, p2, p3, p4, p5, p6, p7⟩ := h
  refine ⟨a, p1, ag_sam p2 (fun j => iC_a (by omega)) rfl, p3, ?_, fun j hj => ?_, fun r j hr => ⟨?_, ?_⟩, fun k hk hk2 => ?_⟩
  · rw [iC_a (by omega)]; exact p4
  · rw [iC_a (by omega)]; exact p5 j hj
  · rw [iC_a (by omega)]; exact (p6 r j hr).1
  · rw [iC_a (by omega)]; exact (p6 r j hr).2
  · rw [iC_a (by omega)]; exact p7 k hk hk2
theorem wfm_w {B : Nat → Int} {x n c m v : Int} {s t : PS} (h : WFM B x n c s t) (hm : m = n) (hn : 0 ≤ n ∧ n ≤ 11) (hc : 0 ≤ c) (hv : v = iC t 165 c.toNat) (hr : rng v) : WFM B x n (c + 1) s (uC t (166 + m.toNat) c.toNat (Int32.ofInt v)) := by
  subst hm
  obtain ⟨a, p1, p2, p3, p4, p5, p6, p7⟩ := h
  refine ⟨a, p1, ag_sam p2 (fun j => iC_a (by omega)) rfl, p3, ?_, fun j hj => ?_, fun r j hr => ⟨?_, ?_⟩, fun k hk hk2 => ?_⟩
  · rw [iC_a (by omega)]; exact p4
  · rw [iC_a (by omega)]; exact p5 j hj
  · rw [iC_a (by omega)]; exact (p6 r j hr).1
  · rw [iC_a (by omega)]; exact (p6 r j hr).2
  · by_cases e : k = c.toNat
    · subst e
      rw [iC_u hr, hv]
      exact (p2.2 _ hk2).symm
    · rw [iC_n e]; exact p7 k (by omega) hk2
theorem lfn_up {n i m : Int} {t : PS} (h : LFN n i t) (hm : m = n) (hi : 0 ≤ i) : LFN n (i + 1) (uC t (178 + m.toNat) i.toNat (Int32.ofInt (-1))) := by
  subst hm
  intro j hj
  by_cases e : j = i.toNat
  · rw [e, iC_u (by decide)]
  · rw [iC_n e]; exact h j (by omega)
theorem lfp_0 {B : Nat → Int} {x n i : Int} {t : PS} (h : LFN n i t) (hi : 128 ≤ i) : LFP B x n 0 t := fun a _ j hj => Or.inl ⟨h j (by omega), fun k hk => by omega⟩
theorem lfp_up {B : Nat → Int} {x n c m v : Int} {s t : PS} (h : LFP B x n c t) (w : WFM B x n c s t) (hm : m = n) (hn : 0 ≤ n ∧ n ≤ 11) (hc : 0 ≤ c ∧ c ≤ 23) (hc2 : c < iI t 91) (hv : v = iC t 165 c.toNat) (hv0 : 0 ≤ v) {u : PS} (hu : ∀ j, iC u (178 + n.toNat) j = iC t (178 + n.toNat) j) : LFP B x n (c + 1) (uC u (178 + m.toNat) v.toNat (Int32.ofInt c)) := by
  subst hm
  obtain ⟨a', p1, p2, -⟩ := w
  intro a ha j hj
  have ea : a' = a := Option.some.inj (p1.symm.trans ha)
  subst ea
  have e1 := p2.1
  have e2 : a'.2 c.toNat = v := by rw [hv]; exact p2.2 _ (by omega)
  by_cases e : j = v.toNat
  · refine Or.inr ⟨c.toNat, by omega, by omega, by rw [e2]; omega, ?_⟩
    rw [e, iC_u ⟨by omega, by omega⟩]; omega
  · rw [iC_n e, hu]
    rcases h a' ha j hj with ⟨q1, q2⟩ | ⟨k, q1, q2, q3, q4⟩
    · refine Or.inl ⟨q1, fun k hk hk2 => ?_⟩
      by_cases z : k = c.toNat
      · rw [z, e2]; omega
      · exact q2 k (by omega) hk2
    · exact Or.inr ⟨k, by omega, q2, q3, q4⟩
/-- what the model has of ways behind a stream's text -/
def WNM (B : Nat → Int) (x : Int) (s t : PS) : Prop := (iI t 90 = iI s 90 ∧ SWM s t) ∨ (iI t 90 = iI s 90 + 1 ∧ WFM B x (iI s 90) 24 s t ∧ LFP B x (iI s 90) 24 t)
theorem wfm_end {B : Nat → Int} {x n c : Int} {s t : PS} (h : WFM B x n c s t) (hc : iI t 91 ≤ c) : WFM B x n 24 s t := by
  obtain ⟨a, p1, p2, p3, p4, p5, p6, p7⟩ := h
  exact ⟨a, p1, p2, p3, p4, p5, p6, fun k _ hk => p7 k (by have := p2.1; omega) hk⟩
theorem lfp_end {B : Nat → Int} {x n c : Int} {s t : PS} (w : WFM B x n c s t) (h : LFP B x n c t) (hc : iI t 91 ≤ c) : LFP B x n 24 t := by
  obtain ⟨a', p1, p2, p3, -⟩ := w
  intro a ha j hj
  have ea : a' = a := Option.some.inj (p1.symm.trans ha)
  subst ea
  have e1 := p2.1
  rcases h a' ha j hj with ⟨q1, q2⟩ | ⟨k, q1, q2, q3, q4⟩
  · exact Or.inl ⟨q1, fun k _ hk => q2 k (by omega) hk⟩
  · exact Or.inr ⟨k, by omega, q2, q3, q4⟩
theorem wfm_I {B : Nat → Int} {x n c : Int} {s t : PS} {v : Int32} (h : WFM B x n c s t) : WFM B x n c s (uI t 90 v) := by
  obtain ⟨a, p1, p2, p3, p4, p5, p6, p7⟩ := h
  exact ⟨a, p1, ag_sam p2 (fun _ => rfl) rfl, p3, p4, p5, p6, p7⟩
theorem lfp_I {B : Nat → Int} {x n c : Int} {t : PS} {v : Int32} (h : LFP B x n c t) : LFP B x n c (uI t 90 v) := h
/-- class and model have the same ways -/
def WQJ (s : PS) : Prop := iI s 9 ≤ 12 ∧ ∀ x : Nat, (x : Int) < iI s 9 → iC s 2 x = iC s 162 x ∧ ∀ k : Nat, (k : Int) < iC s 2 x → iC s 1 (x * 24 + k) = iC s (166 + x) k
theorem WQJ_fm {L M : List Nat} {s t : PS} (F : Fm L M s t) (h : (9 ∉ L ∧ 2 ∉ M ∧ 1 ∉ M ∧ 162 ∉ M) ∧ ∀ j, j < 12 → 166 + j ∉ M) (r : WQJ s) : WQJ t := ⟨by rw [fm_i F h.1.1]; exact r.1, fun x hx => by
  rw [fm_i F h.1.1] at hx
  have r0 := r.1
  obtain ⟨q1, q2⟩ := r.2 x hx
  refine ⟨by rw [fm_c F h.1.2.1, fm_c F h.1.2.2.2]; exact q1, fun k hk => ?_⟩
  rw [fm_c F h.1.2.1] at hk
  rw [fm_c F h.1.2.2.1, fm_c F (h.2 x (by omega))]
  exact q2 k hk⟩
theorem wqj_up {B : Nat → Int} {w w' : Int} {s t u : PS} (h : WQJ s) (hc : WNC B w s t) (f1 : SWM s t) (hm : WNM B w' t u) (f2 : SAM 1 t u) (f3 : SAM 2 t u) (f4 : iI u 9 = iI t 9) (f5 : iI t 90 = iI s 90) (e : iI s 9 = iI s 90) (e2 : iI u 9 = iI u 90) (ew : w' = w) (b : 0 ≤ iI s 9 ∧ iI t 9 ≤ 12) (I : Bd s) : WQJ u := by
  subst ew
  refine ⟨by omega, ?_⟩
  rcases hc with ⟨q1, q2, q3⟩ | ⟨a, q1, q2, q3, q4, q5, q6, q7⟩
  · rcases hm with ⟨m1, m2⟩ | ⟨m1, -⟩
    · intro x hx
      obtain ⟨z1, z2⟩ := h.2 x (by omega)
      refine ⟨by rw [f3, q3, m2.1, f1.1]; exact z1, fun k hk => ?_⟩
      rw [f3, q3] at hk
      rw [f2, q2, (m2.2 x k (by omega)).1, (f1.2 x k (by omega)).1]
      exact z2 k hk
    · omega
  · rcases hm with ⟨m1, m2⟩ | ⟨m1, ⟨a', p1, p2, p3, p4, p5, p6, p7⟩, m3⟩
    · omega
    · have ea : a' = a := Option.some.inj (p1.symm.trans q1)
      subst ea
      have es : iI t 90 = iI s 9 := by omega
      rw [es] at p4 p5 p6 p7
      intro x hx
      by_cases z : (x : Int) = iI s 9
      · have ex : x = (iI s 9).toNat := by omega
        subst ex
        refine ⟨by rw [f3, q5, p4], fun k hk => ?_⟩
        rw [f3, q5] at hk
        rw [f2, p7 k (by omega) hk, ← q4 k hk]
        congr 1
        omega
      · obtain ⟨z1, z2⟩ := h.2 x (by omega)
        refine ⟨by rw [f3, q7 x (by omega), p5 x (by omega), f1.1]; exact z1, fun k hk => ?_⟩
        rw [f3, q7 x (by omega)] at hk
        have hb : (0 : Int) ≤ iC s 2 x ∧ iC s 2 x ≤ 24 := I.2 2 x (show x < 12 by omega)
        have hk2 : k < 24 := by omega
        rw [f2, q6 _ (by omega), (p6 x k (by omega)).1, (f1.2 x k (by omega)).1]
        exact z2 k hk
theorem wqj_way {x y e o : Int} {s t : PS} (h : WQJ s) (x0 : 0 ≤ x) (x1 : x < iI s 9) (f : SWM s t) (hc : (0 ≤ y ∧ y < iC s 2 x.toNat ∧ o = iC s 1 (x * 24 + y).toNat) ∨ ((y < 0 ∨ iC s 2 x.toNat ≤ y) ∧ o = -1)) (hm : (0 ≤ y ∧ y < iC t 162 x.toNat ∧ e = iC t (166 + x.toNat) y.toNat) ∨ ((y < 0 ∨ iC t 162 x.toNat ≤ y) ∧ e = -1)) : o = e := by
  have h0 := h.1
  obtain ⟨z1, z2⟩ := h.2 x.toNat (by omega)
  rw [f.1, ← z1] at hm
  rcases hc with hc | hc
  · rcases hm with hm | hm
    · rw [hc.2.2, hm.2.2, (f.2 x.toNat y.toNat (by omega)).1, ← z2 y.toNat (by omega)]
      congr 1
      omega
    · omega
  · rcases hm with hm | hm
    · omega
    · rw [hc.2, hm.2]
theorem wnc_at {B : Nat → Int} {w : Int} {s u t : PS} (h : (iI u 9 = 12 ∧ iI t 9 = 12 ∧ SAM 1 u t ∧ SAM 2 u t) ∨ (iI u 9 ≤ 11 ∧ iI t 9 = iI u 9 + 1 ∧ CWF (iI u 9) (iI u 11) u t)) (hp : PAR B w u) (h1 : SAM 1 s u) (h2 : SAM 2 s u) (hc : iI u 9 = iI s 9) (h0 : 0 ≤ iI u 9) : WNC B w s t := by
  rcases h with h | h
  · exact Or.inl ⟨by omega, sam_ts h1 h.2.2.1, sam_ts h2 h.2.2.2⟩
  · exact wnc_of hp h.2.2 hc rfl ⟨h0, h.1⟩ h1 h2 (by omega)
theorem par_p {B : Nat → Int} {N e : Int} {t : PS} (h : (e = 1 ∧ PAR B N t) ∨ (e = 0 ∧ parseT B N = none)) (he : e ≠ 0) : PAR B N t := by
  rcases h with h | h
  · exact h.2
  · exact absurd h.1 he
theorem at_c {s t : PS} (h : (iI s 9 = 12 ∧ iI t 9 = 12 ∧ SAM 1 s t ∧ SAM 2 s t) ∨ (iI s 9 ≤ 11 ∧ iI t 9 = iI s 9 + 1 ∧ CWF (iI s 9) (iI s 11) s t)) : (iI s 9 = 12 ∧ iI t 9 = 12) ∨ (iI s 9 ≤ 11 ∧ iI t 9 = iI s 9 + 1) := h.imp (fun q => ⟨q.1, q.2.1⟩) (fun q => ⟨q.1, q.2.1⟩)
section M87e
variable {l : Launch} {s0 : State} {D : va_G} {tys : List (ClassId × FieldType)} {a0 : Array Value} {A : Nat → Nat} {dT : Nat → ClassId} {s : PS}
set_option maxRecDepth 4000 in
theorem c9_setWayF (G : GX l s0 D tys a0 dT) (I : Bd s) {x z w : Int} (p0 : 0 ≤ x ∧ x ≤ 11) (p1 : 0 ≤ w ∧ w ≤ 24) (p2 : z = 0 ∧ z + w ≤ 24) : CT l s0 D A dT 107 (rmN 107) [.ref (A 3), .int (Int32.ofInt x), .ref (A 18), .int (Int32.ofInt z), .int (Int32.ofInt w)] s (fun o t => Bd t ∧ Fm [] [1, 2, 1003, 1004, 1005] s t ∧ o = .inl none ∧ (CWF x w s t)) := by
  refine ct_ofX G (by decide) (Nat.le_of_ble_eq_true rfl) (fun k X E ET hRt hXt q => ?_)
  show WS k 0 [(0, .ref (A 3)), (1, .int (Int32.ofInt x)), (2, .ref (A 18)), (3, .int (Int32.ofInt z)), (4, .int (Int32.ofInt w))] [] _ 0 0
  have F : Fm [] [1, 2, 1003, 1004, 1005] s s := fm_rf _ _ s
  have L35 : ∀ (n : Nat) (t : PS) (xv zv wv go c : Int), Bd t → Fm [] [1, 2, 1003, 1004, 1005] s t → (CWF x w s t) → ((0 ≤ xv ∧ xv ≤ 11) ∧ (0 ≤ wv ∧ wv ≤ 24) ∧ (0 ≤ zv ∧ zv + wv ≤ 24) ∧ (0 ≤ go ∧ go ≤ 6) ∧ 0 ≤ c ∧ c ≤ 24) → (24 - c : Int).toNat < n → (∀ (t' : PS) (go' c' : Int), Bd t' → Fm [] [1, 2, 1003, 1004, 1005] s t' → (CWF x w s t') → ((0 ≤ xv ∧ xv ≤ 11) ∧ (0 ≤ wv ∧ wv ≤ 24) ∧ (0 ≤ zv ∧ zv + wv ≤ 24) ∧ (0 ≤ go' ∧ go' ≤ 6) ∧ 0 ≤ c' ∧ c' ≤ 24) → WS k 153 [(0, .ref (A 3)), (2, .ref (A 18)), (1, .int (Int32.ofInt xv)), (3, .int (Int32.ofInt zv)), (4, .int (Int32.ofInt wv)), (5, .int (Int32.ofInt go')), (6, .int (Int32.ofInt c'))] [] (Wd A dT t') 0 0) → WS k 35 [(0, .ref (A 3)), (2, .ref (A 18)), (1, .int (Int32.ofInt xv)), (3, .int (Int32.ofInt zv)), (4, .int (Int32.ofInt wv)), (5, .int (Int32.ofInt go)), (6, .int (Int32.ofInt c))] [] (Wd A dT t) 0 0 := by
    intro n
    induction n with
    | zero =>
      intro t xv zv wv go c I F hq hi hm kx
      exact absurd hm (Nat.not_lt_zero _)
    | succ n ih =>
      intro t xv zv wv go c I F hq hi hm kx
      refine z_load X (x := c) (show cdA 107 35 = some (.iload 6, 2, 0, 0, 0) from rfl) (List.Mem.tail _ (List.Mem.tail _ (List.Mem.tail _ (List.Mem.tail _ (List.Mem.tail _ (List.Mem.tail _ (List.Mem.head _))))))) ?_
      refine z_load X (x := wv) (show cdA 107 37 = some (.iload 4, 2, 0, 0, 0) from rfl) (List.Mem.tail _ (List.Mem.tail _ (List.Mem.tail _ (List.Mem.tail _ (List.Mem.head _))))) ?_
      refine z_icmp_ge X (t := 153) (show cdA 107 39 = some (.if_icmp .ge 114, 3, 3, 0, 0) from rfl) (by decide) ⟨by first | exact oq_fa4e5087 hi.2.2.2.2.1 | omega, by first | exact oq_5bcd337f hi.2.2.2.2.2 | omega⟩ ⟨by first | exact oq_fa4e5087 hi.2.1.1 | omega, by first | exact oq_5bcd337f hi.2.1.2 | omega⟩ (fun g1001 => ?_) (fun g1001 => ?_)
      ·
        refine WS_lv (lv := [(0, .ref (A 3)), (2, .ref (A 18)), (1, .int (Int32.ofInt xv)), (3, .int (Int32.ofInt zv)), (4, .int (Int32.ofInt wv)), (5, .int (Int32.ofInt go)), (6, .int (Int32.ofInt c))]) (List.forall_mem_cons.mpr ⟨(List.Mem.head _), (List.forall_mem_cons.mpr ⟨(List.Mem.tail _ (List.Mem.head _)), (List.forall_mem_cons.mpr ⟨(List.Mem.tail _ (List.Mem.tail _ (List.Mem.head _))), (List.forall_mem_cons.mpr ⟨(List.Mem.tail _ (List.Mem.tail _ (List.Mem.tail _ (List.Mem.head _)))), (List.forall_mem_cons.mpr ⟨(List.Mem.tail _ (List.Mem.tail _ (List.Mem.tail _ (List.Mem.tail _ (List.Mem.head _))))), (List.forall_mem_cons.mpr ⟨(List.Mem.tail _ (List.Mem.tail _ (List.Mem.tail _ (List.Mem.tail _ (List.Mem.tail _ (List.Mem.head _)))))), (List.forall_mem_cons.mpr ⟨(List.Mem.tail _ (List.Mem.tail _ (List.Mem.tail _ (List.Mem.tail _ (List.Mem.tail _ (List.Mem.tail _ (List.Mem.head _))))))), (fun q h => absurd h List.not_mem_nil)⟩)⟩)⟩)⟩)⟩)⟩)⟩) ?_
        exact kx _ go c I F hq (by first | exact ⟨And.intro (hi.1.1) (hi.1.2), And.intro (hi.2.1.1) (hi.2.1.2), And.intro (hi.2.2.1.1) (hi.2.2.1.2), And.intro (hi.2.2.2.1.1) (hi.2.2.2.1.2), hi.2.2.2.2.1, hi.2.2.2.2.2⟩ | omega)
      ·
        refine z_aload_n X (x := A 18) (show cdA 107 42 = some (.aload_n 2, 1, 0, 0, 0) from rfl) (List.Mem.tail _ (List.Mem.head _)) ?_
        refine z_load_n X (x := zv) (show cdA 107 43 = some (.iload_n 3, 1, 0, 0, 0) from rfl) (List.Mem.tail _ (List.Mem.tail _ (List.Mem.tail _ (List.Mem.head _)))) ?_
        refine z_load X (x := c) (show cdA 107 44 = some (.iload 6, 2, 0, 0, 0) from rfl) (List.Mem.tail _ (List.Mem.tail _ (List.Mem.tail _ (List.Mem.tail _ (List.Mem.tail _ (List.Mem.tail _ (List.Mem.head _))))))) ?_
        refine z_add X (show cdA 107 46 = some (.iadd, 1, 0, 0, 0) from rfl) ?_
        refine z_ald X 18 (show cdA 107 47 = some (.iaload, 1, 0, 0, 0) from rfl) (by decide) rfl (by first | exact oq_dd29f52d hi.2.2.1.1 hi.2.2.2.2.1 | omega) (show (zv + c) < 24 by first | exact oq_de70c7d8 hi.2.2.1.2 g1001 | omega) (by decide) ?_
        have b1002 : (0 : Int) ≤ iC t 15 ((zv + c)).toNat ∧ iC t 15 ((zv + c)).toNat ≤ 127 := I.2 15 _ (show ((zv + c)).toNat < 24 by first | exact oq_ff24e3f1 hi.2.2.1.2 g1001 | omega)
        refine z_store X (lv' := [(7, .int (Int32.ofInt (iC t 15 ((zv + c)).toNat))), (0, .ref (A 3)), (2, .ref (A 18)), (1, .int (Int32.ofInt xv)), (3, .int (Int32.ofInt zv)), (4, .int (Int32.ofInt wv)), (5, .int (Int32.ofInt go)), (6, .int (Int32.ofInt c))]) (show cdA 107 48 = some (.istore 7, 2, 0, 0, 0) from rfl) (by decide) (fun _ h => h) ?_
        refine z_load X (x := c) (show cdA 107 50 = some (.iload 6, 2, 0, 0, 0) from rfl) (List.Mem.tail _ (List.Mem.tail _ (List.Mem.tail _ (List.Mem.tail _ (List.Mem.tail _ (List.Mem.tail _ (List.Mem.tail _ (List.Mem.head _)))))))) ?_
        refine z_const X (show cdA 107 52 = some (.iconst 1, 1, 0, 0, 0) from rfl) ?_
        refine z_add X (show cdA 107 53 = some (.iadd, 1, 0, 0, 0) from rfl) ?_
        refine z_load X (x := wv) (show cdA 107 54 = some (.iload 4, 2, 0, 0, 0) from rfl) (List.Mem.tail _ (List.Mem.tail _ (List.Mem.tail _ (List.Mem.tail _ (List.Mem.tail _ (List.Mem.head _)))))) ?_
        refine z_icmp_ge X (t := 94) (show cdA 107 56 = some (.if_icmp .ge 38, 3, 3, 0, 0) from rfl) (by decide) ⟨by first | exact oq_74de1e16 hi.2.2.2.2.1 | omega, by first | exact oq_3a454424 hi.2.2.2.2.2 | omega⟩ ⟨by first | exact oq_fa4e5087 hi.2.1.1 | omega, by first | exact oq_5bcd337f hi.2.1.2 | omega⟩ (fun g1003 => ?_) (fun g1003 => ?_)
        ·
          refine w_lconst X.1 (ax_d X (show cdA 107 94 = some (.lconst 1, 1, 0, 0, 0) from rfl)) rfl ?_
          refine z_anyJ (fun j1004 => ?_)
          refine z_load X (x := (iC t 15 ((zv + c)).toNat)) (show cdA 107 95 = some (.iload 7, 2, 0, 0, 0) from rfl) (List.Mem.head _) ?_
          refine z_bipush X (show cdA 107 97 = some (.bipush 63, 2, 0, 0, 63) from rfl) ?_
          refine z_andm X (show cdA 107 99 = some (.iand, 1, 0, 0, 0) from rfl) (by decide) (by decide) (fun y1005 hy1005 gy1005 => ?_)
          refine w_lshl X.1 (ax_d X (show cdA 107 100 = some (.lshl, 1, 0, 0, 0) from rfl)) ?_
          refine z_anyJ (fun j1006 => ?_)
          refine w_lstore X.1 (lv' := [(8, .long j1006), (7, .int (Int32.ofInt (iC t 15 ((zv + c)).toNat))), (0, .ref (A 3)), (2, .ref (A 18)), (1, .int (Int32.ofInt xv)), (3, .int (Int32.ofInt zv)), (4, .int (Int32.ofInt wv)), (5, .int (Int32.ofInt go)), (6, .int (Int32.ofInt c))]) (ax_d X (show cdA 107 101 = some (.lstore 8, 2, 0, 0, 0) from rfl)) (by rw [X.2.1.2.2]; decide) (fun _ h => h) ?_
          refine z_aload_n X (x := A 3) (show cdA 107 103 = some (.aload_n 0, 1, 0, 0, 0) from rfl) (List.Mem.tail _ (List.Mem.tail _ (List.Mem.head _))) ?_
          refine s_getR X 3 (show cdA 107 104 = some (.getfield 18, 3, 9, 3, 0) from rfl) (by decide) rfl rfl ?_
          refine z_load_n X (x := xv) (show cdA 107 107 = some (.iload_n 1, 1, 0, 0, 0) from rfl) (List.Mem.tail _ (List.Mem.tail _ (List.Mem.tail _ (List.Mem.tail _ (List.Mem.head _))))) ?_
          refine z_const X (show cdA 107 108 = some (.iconst 2, 1, 0, 0, 0) from rfl) ?_
          refine z_mul X (show cdA 107 109 = some (.imul, 1, 0, 0, 0) from rfl) ?_
          refine z_load X (x := (iC t 15 ((zv + c)).toNat)) (show cdA 107 110 = some (.iload 7, 2, 0, 0, 0) from rfl) (List.Mem.tail _ (List.Mem.head _)) ?_
          refine z_bipush X (show cdA 107 112 = some (.bipush 64, 2, 0, 0, 64) from rfl) ?_
          refine z_quot X (show cdA 107 114 = some (.idiv, 1, 0, 0, 0) from rfl) (by first | exact b1002.1 | omega) (rng_to _) (by decide) (by decide) ?_
          refine z_add X (show cdA 107 115 = some (.iadd, 1, 0, 0, 0) from rfl) ?_
          refine w_dup2_11 X.1 (ax_d X (show cdA 107 116 = some (.dup2, 1, 0, 0, 0) from rfl)) rfl rfl ?_
          refine z_lald X 6 (show cdA 107 117 = some (.laload, 1, 0, 0, 0) from rfl) (by decide) rfl (by first | exact oq_c0bd8137 b1002.1 hi.1.1 | omega) (show ((xv * 2) + ((iC t 15 ((zv + c)).toNat) / 64)) < 24 by first | exact oq_c80b6473 b1002.2 hi.1.2 | omega) (by decide) (fun j1007 => ?_)
          refine w_lload X.1 (ax_d X (show cdA 107 118 = some (.lload 8, 2, 0, 0, 0) from rfl)) (x := j1006) (List.Mem.head _) ?_
          refine w_lor X.1 (ax_d X (show cdA 107 120 = some (.lor, 1, 0, 0, 0) from rfl)) ?_
          refine z_anyJ (fun j1008 => ?_)
          refine z_last X 6 (show cdA 107 121 = some (.lastore, 1, 0, 0, 0) from rfl) (by decide) rfl (by first | exact oq_c0bd8137 b1002.1 hi.1.1 | omega) (show ((xv * 2) + ((iC t 15 ((zv + c)).toNat) / 64)) < 24 by first | exact oq_c80b6473 b1002.2 hi.1.2 | omega) (by decide) ?_
          obtain ⟨s1009, hs1009⟩ : ∃ x0, x0 = uD t 3 (((xv * 2) + ((iC t 15 ((zv + c)).toNat) / 64))).toNat j1008 := ⟨_, rfl⟩
          rw [← hs1009]
          have Is1009 : Bd s1009 := by rw [hs1009]; exact bd_D I
          have Fs1009 : Fm [] [1, 2, 1003, 1004, 1005] s s1009 := by rw [hs1009]; exact fm_D F (show 3 + 1000 ∈ _ by decide)
          have aws1009_1 : SAM 1 t s1009 := by rw [hs1009]; exact (sam_rf (a := 1) (s := t))
          have aws1009_2 : SAM 2 t s1009 := by rw [hs1009]; exact (sam_rf (a := 2) (s := t))
          refine z_aload_n X (x := A 3) (show cdA 107 122 = some (.aload_n 0, 1, 0, 0, 0) from rfl) (List.Mem.tail _ (List.Mem.tail _ (List.Mem.head _))) ?_
          refine s_getR X 3 (show cdA 107 123 = some (.getfield 22, 3, 9, 4, 0) from rfl) (by decide) rfl rfl ?_
          refine z_load_n X (x := xv) (show cdA 107 126 = some (.iload_n 1, 1, 0, 0, 0) from rfl) (List.Mem.tail _ (List.Mem.tail _ (List.Mem.tail _ (List.Mem.tail _ (List.Mem.head _))))) ?_
          refine z_bipush X (show cdA 107 127 = some (.bipush 7, 2, 0, 0, 7) from rfl) ?_
          refine z_mul X (show cdA 107 129 = some (.imul, 1, 0, 0, 0) from rfl) ?_
          refine z_load X (x := go) (show cdA 107 130 = some (.iload 5, 2, 0, 0, 0) from rfl) (List.Mem.tail _ (List.Mem.tail _ (List.Mem.tail _ (List.Mem.tail _ (List.Mem.tail _ (List.Mem.tail _ (List.Mem.tail _ (List.Mem.head _)))))))) ?_
          refine z_add X (show cdA 107 132 = some (.iadd, 1, 0, 0, 0) from rfl) ?_
          refine z_const X (show cdA 107 133 = some (.iconst 2, 1, 0, 0, 0) from rfl) ?_
          refine z_mul X (show cdA 107 134 = some (.imul, 1, 0, 0, 0) from rfl) ?_
          refine z_load X (x := (iC t 15 ((zv + c)).toNat)) (show cdA 107 135 = some (.iload 7, 2, 0, 0, 0) from rfl) (List.Mem.tail _ (List.Mem.head _)) ?_
          refine z_bipush X (show cdA 107 137 = some (.bipush 64, 2, 0, 0, 64) from rfl) ?_
          refine z_quot X (show cdA 107 139 = some (.idiv, 1, 0, 0, 0) from rfl) (by first | exact b1002.1 | omega) (rng_to _) (by decide) (by decide) ?_
          refine z_add X (show cdA 107 140 = some (.iadd, 1, 0, 0, 0) from rfl) ?_
          refine w_dup2_11 X.1 (ax_d X (show cdA 107 141 = some (.dup2, 1, 0, 0, 0) from rfl)) rfl rfl ?_
          refine z_lald X 7 (show cdA 107 142 = some (.laload, 1, 0, 0, 0) from rfl) (by decide) rfl (by first | exact oq_ea32c91a b1002.1 hi.2.2.2.1.1 hi.1.1 | omega) (show ((((xv * 7) + go) * 2) + ((iC t 15 ((zv + c)).toNat) / 64)) < 168 by first | exact oq_5da8d824 b1002.2 hi.2.2.2.1.2 hi.1.2 | omega) (by decide) (fun j1010 => ?_)
          refine w_lload X.1 (ax_d X (show cdA 107 143 = some (.lload 8, 2, 0, 0, 0) from rfl)) (x := j1006) (List.Mem.head _) ?_
          refine w_lor X.1 (ax_d X (show cdA 107 145 = some (.lor, 1, 0, 0, 0) from rfl)) ?_
          refine z_anyJ (fun j1011 => ?_)
          refine z_last X 7 (show cdA 107 146 = some (.lastore, 1, 0, 0, 0) from rfl) (by decide) rfl (by first | exact oq_ea32c91a b1002.1 hi.2.2.2.1.1 hi.1.1 | omega) (show ((((xv * 7) + go) * 2) + ((iC t 15 ((zv + c)).toNat) / 64)) < 168 by first | exact oq_5da8d824 b1002.2 hi.2.2.2.1.2 hi.1.2 | omega) (by decide) ?_
          obtain ⟨s1012, hs1012⟩ : ∃ x0, x0 = uD s1009 4 (((((xv * 7) + go) * 2) + ((iC t 15 ((zv + c)).toNat) / 64))).toNat j1011 := ⟨_, rfl⟩
          rw [← hs1012]
          have Is1012 : Bd s1012 := by rw [hs1012]; exact bd_D Is1009
          have Fs1012 : Fm [] [1, 2, 1003, 1004, 1005] s s1012 := by rw [hs1012]; exact fm_D Fs1009 (show 4 + 1000 ∈ _ by decide)
          have aws1012_1 : SAM 1 t s1012 := by rw [hs1012]; exact aws1009_1
          have aws1012_2 : SAM 2 t s1012 := by rw [hs1012]; exact aws1009_2
          refine z_inc X (x := c) (lv' := [(6, .int (Int32.ofInt (c + 1))), (8, .long j1006), (7, .int (Int32.ofInt (iC t 15 ((zv + c)).toNat))), (0, .ref (A 3)), (2, .ref (A 18)), (1, .int (Int32.ofInt xv)), (3, .int (Int32.ofInt zv)), (4, .int (Int32.ofInt wv)), (5, .int (Int32.ofInt go))]) (show cdA 107 147 = some (.iinc 6 1, 3, 0, 0, 0) from rfl) (by decide) (List.Mem.tail _ (List.Mem.tail _ (List.Mem.tail _ (List.Mem.tail _ (List.Mem.tail _ (List.Mem.tail _ (List.Mem.tail _ (List.Mem.tail _ (List.Mem.head _))))))))) (fun _ h => h) ?_
          refine z_goto X (t := 35) (show cdA 107 150 = some (.goto (-115), 3, 0, 0, 0) from rfl) (by decide) ?_
          refine WS_lv (lv := [(0, .ref (A 3)), (2, .ref (A 18)), (1, .int (Int32.ofInt xv)), (3, .int (Int32.ofInt zv)), (4, .int (Int32.ofInt wv)), (5, .int (Int32.ofInt go)), (6, .int (Int32.ofInt (c + 1)))]) (List.forall_mem_cons.mpr ⟨(List.Mem.tail _ (List.Mem.tail _ (List.Mem.tail _ (List.Mem.head _)))), (List.forall_mem_cons.mpr ⟨(List.Mem.tail _ (List.Mem.tail _ (List.Mem.tail _ (List.Mem.tail _ (List.Mem.head _))))), (List.forall_mem_cons.mpr ⟨(List.Mem.tail _ (List.Mem.tail _ (List.Mem.tail _ (List.Mem.tail _ (List.Mem.tail _ (List.Mem.head _)))))), (List.forall_mem_cons.mpr ⟨(List.Mem.tail _ (List.Mem.tail _ (List.Mem.tail _ (List.Mem.tail _ (List.Mem.tail _ (List.Mem.tail _ (List.Mem.head _))))))), (List.forall_mem_cons.mpr ⟨(List.Mem.tail _ (List.Mem.tail _ (List.Mem.tail _ (List.Mem.tail _ (List.Mem.tail _ (List.Mem.tail _ (List.Mem.tail _ (List.Mem.head _)))))))), (List.forall_mem_cons.mpr ⟨(List.Mem.tail _ (List.Mem.tail _ (List.Mem.tail _ (List.Mem.tail _ (List.Mem.tail _ (List.Mem.tail _ (List.Mem.tail _ (List.Mem.tail _ (List.Mem.head _))))))))), (List.forall_mem_cons.mpr ⟨(List.Mem.head _), (fun q h => absurd h List.not_mem_nil)⟩)⟩)⟩)⟩)⟩)⟩)⟩) ?_
          exact ih _ xv zv wv go (c + 1) Is1012 Fs1012 (cwf_sam hq aws1012_1 aws1012_2) (by first | exact ⟨And.intro (hi.1.1) (hi.1.2), And.intro (hi.2.1.1) (hi.2.1.2), And.intro (hi.2.2.1.1) (hi.2.2.1.2), And.intro (hi.2.2.2.1.1) (hi.2.2.2.1.2), oq_54f49eb5 hi.2.2.2.2.1, oq_41473be0 g1001 hi.2.1.2⟩ | omega) (by first | exact qk_me hm (by decide) (oq_9dea93e6 g1001 hi.2.1.2) | omega) kx
        ·
          refine z_load X (x := (iC t 15 ((zv + c)).toNat)) (show cdA 107 59 = some (.iload 7, 2, 0, 0, 0) from rfl) (List.Mem.head _) ?_
          refine z_aload_n X (x := A 18) (show cdA 107 61 = some (.aload_n 2, 1, 0, 0, 0) from rfl) (List.Mem.tail _ (List.Mem.tail _ (List.Mem.head _))) ?_
          refine z_load_n X (x := zv) (show cdA 107 62 = some (.iload_n 3, 1, 0, 0, 0) from rfl) (List.Mem.tail _ (List.Mem.tail _ (List.Mem.tail _ (List.Mem.tail _ (List.Mem.head _))))) ?_
          refine z_load X (x := c) (show cdA 107 63 = some (.iload 6, 2, 0, 0, 0) from rfl) (List.Mem.tail _ (List.Mem.tail _ (List.Mem.tail _ (List.Mem.tail _ (List.Mem.tail _ (List.Mem.tail _ (List.Mem.tail _ (List.Mem.head _)))))))) ?_
          refine z_add X (show cdA 107 65 = some (.iadd, 1, 0, 0, 0) from rfl) ?_
          refine z_const X (show cdA 107 66 = some (.iconst 1, 1, 0, 0, 0) from rfl) ?_
          refine z_add X (show cdA 107 67 = some (.iadd, 1, 0, 0, 0) from rfl) ?_
          refine z_ald X 18 (show cdA 107 68 = some (.iaload, 1, 0, 0, 0) from rfl) (by decide) rfl (by first | exact oq_21f9cd09 hi.2.2.1.1 hi.2.2.2.2.1 | omega) (show ((zv + c) + 1) < 24 by first | exact oq_c07d830a hi.2.2.1.2 g1003 | omega) (by decide) ?_
          have b1013 : (0 : Int) ≤ iC t 15 (((zv + c) + 1)).toNat ∧ iC t 15 (((zv + c) + 1)).toNat ≤ 127 := I.2 15 _ (show (((zv + c) + 1)).toNat < 24 by first | exact oq_136cae15 hi.2.2.1.2 g1003 | omega)
          refine z_callS X (rm := rmN 102) (As := [.int (Int32.ofInt (iC t 15 ((zv + c)).toNat)), .int (Int32.ofInt (iC t 15 (((zv + c) + 1)).toNat))]) (st := []) (show cdA 107 69 = some (.invokestatic 119, 3, 102, 1, 0) from rfl) rfl (by rw [E.1, E.2.1, E.2.2.1]; exact c9_goBetween G I (by first | exact ⟨b1002.1, b1002.2⟩ | omega) (by first | exact ⟨b1013.1, b1013.2⟩ | omega)) ⟨by rw [E.2.2.2]; exact (show (rmN 102).frames + 1 ≤ (rmN 107).frames by decide), by rw [E.2.2.2]; exact (show 8 + (mNL (miB 102) + 11) + (rmN 102).locals ≤ (rmN 107).locals by decide), by rw [E.2.2.2]; exact (show 0 + (rmN 102).cells ≤ (rmN 107).cells by decide), by rw [E.2.2.2]; exact (show 0 + (rmN 102).slots ≤ (rmN 107).slots by decide)⟩ (Nat.le_of_ble_eq_true rfl) (fun vv s1014 hq => ?_) (fun ee s1014 hq => ?_)
          rotate_left
          · obtain ⟨rfl, e1015, hv, hrs1014, hps1014⟩ := hq; cases hv
          obtain ⟨rfl, e1015, hv, hrs1014, hps1014⟩ := hq
          cases hv
          show WS k 72 [(7, .int (Int32.ofInt (iC t 15 ((zv + c)).toNat))), (0, .ref (A 3)), (2, .ref (A 18)), (1, .int (Int32.ofInt xv)), (3, .int (Int32.ofInt zv)), (4, .int (Int32.ofInt wv)), (5, .int (Int32.ofInt go)), (6, .int (Int32.ofInt c))] [.int (Int32.ofInt e1015)] (Wd A dT t) 0 0
          refine z_store X (lv' := [(5, .int (Int32.ofInt e1015)), (7, .int (Int32.ofInt (iC t 15 ((zv + c)).toNat))), (0, .ref (A 3)), (2, .ref (A 18)), (1, .int (Int32.ofInt xv)), (3, .int (Int32.ofInt zv)), (4, .int (Int32.ofInt wv)), (6, .int (Int32.ofInt c))]) (show cdA 107 72 = some (.istore 5, 2, 0, 0, 0) from rfl) (by decide) (fun _ h => h) ?_
          refine z_aload_n X (x := A 3) (show cdA 107 74 = some (.aload_n 0, 1, 0, 0, 0) from rfl) (List.Mem.tail _ (List.Mem.tail _ (List.Mem.head _))) ?_
          refine z_load_n X (x := xv) (show cdA 107 75 = some (.iload_n 1, 1, 0, 0, 0) from rfl) (List.Mem.tail _ (List.Mem.tail _ (List.Mem.tail _ (List.Mem.tail _ (List.Mem.head _))))) ?_
          refine z_load X (x := (iC t 15 ((zv + c)).toNat)) (show cdA 107 76 = some (.iload 7, 2, 0, 0, 0) from rfl) (List.Mem.tail _ (List.Mem.head _)) ?_
          refine z_aload_n X (x := A 18) (show cdA 107 78 = some (.aload_n 2, 1, 0, 0, 0) from rfl) (List.Mem.tail _ (List.Mem.tail _ (List.Mem.tail _ (List.Mem.head _)))) ?_
          refine z_load_n X (x := zv) (show cdA 107 79 = some (.iload_n 3, 1, 0, 0, 0) from rfl) (List.Mem.tail _ (List.Mem.tail _ (List.Mem.tail _ (List.Mem.tail _ (List.Mem.tail _ (List.Mem.head _)))))) ?_
          refine z_load X (x := c) (show cdA 107 80 = some (.iload 6, 2, 0, 0, 0) from rfl) (List.Mem.tail _ (List.Mem.tail _ (List.Mem.tail _ (List.Mem.tail _ (List.Mem.tail _ (List.Mem.tail _ (List.Mem.tail _ (List.Mem.head _)))))))) ?_
          refine z_add X (show cdA 107 82 = some (.iadd, 1, 0, 0, 0) from rfl) ?_
          refine z_const X (show cdA 107 83 = some (.iconst 1, 1, 0, 0, 0) from rfl) ?_
          refine z_add X (show cdA 107 84 = some (.iadd, 1, 0, 0, 0) from rfl) ?_
          refine z_ald X 18 (show cdA 107 85 = some (.iaload, 1, 0, 0, 0) from rfl) (by decide) rfl (by first | exact oq_21f9cd09 hi.2.2.1.1 hi.2.2.2.2.1 | omega) (show ((zv + c) + 1) < 24 by first | exact oq_c07d830a hi.2.2.1.2 g1003 | omega) (by decide) ?_
          have b1016 : (0 : Int) ≤ iC t 15 (((zv + c) + 1)).toNat ∧ iC t 15 (((zv + c) + 1)).toNat ≤ 127 := I.2 15 _ (show (((zv + c) + 1)).toNat < 24 by first | exact oq_136cae15 hi.2.2.1.2 g1003 | omega)
          refine z_min X (show cdA 107 86 = some (.invokestatic 122, 3, 0, 8, 0) from rfl) (rng_to _) (rng_to _) (by rw [E.2.2.2]; decide) (by rw [E.2.2.2]; exact Nat.le_of_ble_eq_true rfl) (Nat.zero_le _) (Nat.zero_le _) (fun e1017 he1017 => ?_)
          refine z_load X (x := e1015) (show cdA 107 89 = some (.iload 5, 2, 0, 0, 0) from rfl) (List.Mem.head _) ?_
          refine z_callV X 3 (rm := rmN 109) (As := [.int (Int32.ofInt xv), .int (Int32.ofInt e1017), .int (Int32.ofInt e1015)]) (st := []) (show cdA 107 91 = some (.invokevirtual 127, 3, 109, 0, 0) from rfl) rfl (by decide) rfl (by rw [E.1, E.2.1, E.2.2.1]; exact c9_setStep_3 G I (by first | exact ⟨hi.1.1, hi.1.2⟩ | omega) (by first | exact ⟨oq_03ccc143 he1017 b1016.1 b1002.1, oq_9c77db17 he1017 b1002.2⟩ | omega) (by first | exact ⟨hps1014.1, hps1014.2⟩ | omega)) ⟨by rw [E.2.2.2]; exact (show (rmN 109).frames + 1 ≤ (rmN 107).frames by decide), by rw [E.2.2.2]; exact (show 8 + (mNL (miB 109) + 11) + (rmN 109).locals ≤ (rmN 107).locals by decide), by rw [E.2.2.2]; exact (show 0 + (rmN 109).cells ≤ (rmN 107).cells by decide), by rw [E.2.2.2]; exact (show 0 + (rmN 109).slots ≤ (rmN 107).slots by decide)⟩ (Nat.le_of_ble_eq_true rfl) (fun vv s1018 hq => ?_) (fun ee s1018 hq => ?_)
          rotate_left
          · obtain ⟨Is1018, Fs1018, hv, hps1018⟩ := hq; cases hv
          obtain ⟨Is1018, Fs1018, hv, hps1018⟩ := hq
          cases hv
          have Gs1018 := fm_ts F Fs1018 (by decide) (by decide)
          have aws1018_1 : SAM 1 t s1018 := sam_ts (sam_rf (a := 1) (s := t)) (sam_fm Fs1018 (by decide))
          have aws1018_2 : SAM 2 t s1018 := sam_ts (sam_rf (a := 2) (s := t)) (sam_fm Fs1018 (by decide))
          show WS k 94 [(5, .int (Int32.ofInt e1015)), (7, .int (Int32.ofInt (iC t 15 ((zv + c)).toNat))), (0, .ref (A 3)), (2, .ref (A 18)), (1, .int (Int32.ofInt xv)), (3, .int (Int32.ofInt zv)), (4, .int (Int32.ofInt wv)), (6, .int (Int32.ofInt c))] [] (Wd A dT s1018) 0 0
          refine w_lconst X.1 (ax_d X (show cdA 107 94 = some (.lconst 1, 1, 0, 0, 0) from rfl)) rfl ?_
          refine z_anyJ (fun j1020 => ?_)
          refine z_load X (x := (iC t 15 ((zv + c)).toNat)) (show cdA 107 95 = some (.iload 7, 2, 0, 0, 0) from rfl) (List.Mem.tail _ (List.Mem.head _)) ?_
          refine z_bipush X (show cdA 107 97 = some (.bipush 63, 2, 0, 0, 63) from rfl) ?_
          refine z_andm X (show cdA 107 99 = some (.iand, 1, 0, 0, 0) from rfl) (by decide) (by decide) (fun y1021 hy1021 gy1021 => ?_)
          refine w_lshl X.1 (ax_d X (show cdA 107 100 = some (.lshl, 1, 0, 0, 0) from rfl)) ?_
          refine z_anyJ (fun j1022 => ?_)
          refine w_lstore X.1 (lv' := [(8, .long j1022), (5, .int (Int32.ofInt e1015)), (7, .int (Int32.ofInt (iC t 15 ((zv + c)).toNat))), (0, .ref (A 3)), (2, .ref (A 18)), (1, .int (Int32.ofInt xv)), (3, .int (Int32.ofInt zv)), (4, .int (Int32.ofInt wv)), (6, .int (Int32.ofInt c))]) (ax_d X (show cdA 107 101 = some (.lstore 8, 2, 0, 0, 0) from rfl)) (by rw [X.2.1.2.2]; decide) (fun _ h => h) ?_
          refine z_aload_n X (x := A 3) (show cdA 107 103 = some (.aload_n 0, 1, 0, 0, 0) from rfl) (List.Mem.tail _ (List.Mem.tail _ (List.Mem.tail _ (List.Mem.head _)))) ?_
          refine s_getR X 3 (show cdA 107 104 = some (.getfield 18, 3, 9, 3, 0) from rfl) (by decide) rfl rfl ?_
          refine z_load_n X (x := xv) (show cdA 107 107 = some (.iload_n 1, 1, 0, 0, 0) from rfl) (List.Mem.tail _ (List.Mem.tail _ (List.Mem.tail _ (List.Mem.tail _ (List.Mem.tail _ (List.Mem.head _)))))) ?_
          refine z_const X (show cdA 107 108 = some (.iconst 2, 1, 0, 0, 0) from rfl) ?_
          refine z_mul X (show cdA 107 109 = some (.imul, 1, 0, 0, 0) from rfl) ?_
          refine z_load X (x := (iC t 15 ((zv + c)).toNat)) (show cdA 107 110 = some (.iload 7, 2, 0, 0, 0) from rfl) (List.Mem.tail _ (List.Mem.tail _ (List.Mem.head _))) ?_
          refine z_bipush X (show cdA 107 112 = some (.bipush 64, 2, 0, 0, 64) from rfl) ?_
          refine z_quot X (show cdA 107 114 = some (.idiv, 1, 0, 0, 0) from rfl) (by first | exact b1002.1 | omega) (rng_to _) (by decide) (by decide) ?_
          refine z_add X (show cdA 107 115 = some (.iadd, 1, 0, 0, 0) from rfl) ?_
          refine w_dup2_11 X.1 (ax_d X (show cdA 107 116 = some (.dup2, 1, 0, 0, 0) from rfl)) rfl rfl ?_
          refine z_lald X 6 (show cdA 107 117 = some (.laload, 1, 0, 0, 0) from rfl) (by decide) rfl (by first | exact oq_c0bd8137 b1002.1 hi.1.1 | omega) (show ((xv * 2) + ((iC t 15 ((zv + c)).toNat) / 64)) < 24 by first | exact oq_c80b6473 b1002.2 hi.1.2 | omega) (by decide) (fun j1023 => ?_)
          refine w_lload X.1 (ax_d X (show cdA 107 118 = some (.lload 8, 2, 0, 0, 0) from rfl)) (x := j1022) (List.Mem.head _) ?_
          refine w_lor X.1 (ax_d X (show cdA 107 120 = some (.lor, 1, 0, 0, 0) from rfl)) ?_
          refine z_anyJ (fun j1024 => ?_)
          refine z_last X 6 (show cdA 107 121 = some (.lastore, 1, 0, 0, 0) from rfl) (by decide) rfl (by first | exact oq_c0bd8137 b1002.1 hi.1.1 | omega) (show ((xv * 2) + ((iC t 15 ((zv + c)).toNat) / 64)) < 24 by first | exact oq_c80b6473 b1002.2 hi.1.2 | omega) (by decide) ?_
          obtain ⟨s1025, hs1025⟩ : ∃ x0, x0 = uD s1018 3 (((xv * 2) + ((iC t 15 ((zv + c)).toNat) / 64))).toNat j1024 := ⟨_, rfl⟩
          rw [← hs1025]
          have Is1025 : Bd s1025 := by rw [hs1025]; exact bd_D Is1018
          have Fs1025 : Fm [] [1, 2, 1003, 1004, 1005] s s1025 := by rw [hs1025]; exact fm_D Gs1018 (show 3 + 1000 ∈ _ by decide)
          have aws1025_1 : SAM 1 t s1025 := by rw [hs1025]; exact aws1018_1
          have aws1025_2 : SAM 2 t s1025 := by rw [hs1025]; exact aws1018_2
          refine z_aload_n X (x := A 3) (show cdA 107 122 = some (.aload_n 0, 1, 0, 0, 0) from rfl) (List.Mem.tail _ (List.Mem.tail _ (List.Mem.tail _ (List.Mem.head _)))) ?_
          refine s_getR X 3 (show cdA 107 123 = some (.getfield 22, 3, 9, 4, 0) from rfl) (by decide) rfl rfl ?_
          refine z_load_n X (x := xv) (show cdA 107 126 = some (.iload_n 1, 1, 0, 0, 0) from rfl) (List.Mem.tail _ (List.Mem.tail _ (List.Mem.tail _ (List.Mem.tail _ (List.Mem.tail _ (List.Mem.head _)))))) ?_
          refine z_bipush X (show cdA 107 127 = some (.bipush 7, 2, 0, 0, 7) from rfl) ?_
          refine z_mul X (show cdA 107 129 = some (.imul, 1, 0, 0, 0) from rfl) ?_
          refine z_load X (x := e1015) (show cdA 107 130 = some (.iload 5, 2, 0, 0, 0) from rfl) (List.Mem.tail _ (List.Mem.head _)) ?_
          refine z_add X (show cdA 107 132 = some (.iadd, 1, 0, 0, 0) from rfl) ?_
          refine z_const X (show cdA 107 133 = some (.iconst 2, 1, 0, 0, 0) from rfl) ?_
          refine z_mul X (show cdA 107 134 = some (.imul, 1, 0, 0, 0) from rfl) ?_
          refine z_load X (x := (iC t 15 ((zv + c)).toNat)) (show cdA 107 135 = some (.iload 7, 2, 0, 0, 0) from rfl) (List.Mem.tail _ (List.Mem.tail _ (List.Mem.head _))) ?_
          refine z_bipush X (show cdA 107 137 = some (.bipush 64, 2, 0, 0, 64) from rfl) ?_
          refine z_quot X (show cdA 107 139 = some (.idiv, 1, 0, 0, 0) from rfl) (by first | exact b1002.1 | omega) (rng_to _) (by decide) (by decide) ?_
          refine z_add X (show cdA 107 140 = some (.iadd, 1, 0, 0, 0) from rfl) ?_
          refine w_dup2_11 X.1 (ax_d X (show cdA 107 141 = some (.dup2, 1, 0, 0, 0) from rfl)) rfl rfl ?_
          refine z_lald X 7 (show cdA 107 142 = some (.laload, 1, 0, 0, 0) from rfl) (by decide) rfl (by first | exact oq_f0013a75 hps1014.1 b1002.1 hi.1.1 | omega) (show ((((xv * 7) + e1015) * 2) + ((iC t 15 ((zv + c)).toNat) / 64)) < 168 by first | exact oq_2f745b71 hps1014.2 b1002.2 hi.1.2 | omega) (by decide) (fun j1026 => ?_)
          refine w_lload X.1 (ax_d X (show cdA 107 143 = some (.lload 8, 2, 0, 0, 0) from rfl)) (x := j1022) (List.Mem.head _) ?_
          refine w_lor X.1 (ax_d X (show cdA 107 145 = some (.lor, 1, 0, 0, 0) from rfl)) ?_
          refine z_anyJ (fun j1027 => ?_)
          refine z_last X 7 (show cdA 107 146 = some (.lastore, 1, 0, 0, 0) from rfl) (by decide) rfl (by first | exact oq_f0013a75 hps1014.1 b1002.1 hi.1.1 | omega) (show ((((xv * 7) + e1015) * 2) + ((iC t 15 ((zv + c)).toNat) / 64)) < 168 by first | exact oq_2f745b71 hps1014.2 b1002.2 hi.1.2 | omega) (by decide) ?_
          obtain ⟨s1028, hs1028⟩ : ∃ x0, x0 = uD s1025 4 (((((xv * 7) + e1015) * 2) + ((iC t 15 ((zv + c)).toNat) / 64))).toNat j1027 := ⟨_, rfl⟩
          rw [← hs1028]
          have Is1028 : Bd s1028 := by rw [hs1028]; exact bd_D Is1025
          have Fs1028 : Fm [] [1, 2, 1003, 1004, 1005] s s1028 := by rw [hs1028]; exact fm_D Fs1025 (show 4 + 1000 ∈ _ by decide)
          have aws1028_1 : SAM 1 t s1028 := by rw [hs1028]; exact aws1025_1
          have aws1028_2 : SAM 2 t s1028 := by rw [hs1028]; exact aws1025_2
          refine z_inc X (x := c) (lv' := [(6, .int (Int32.ofInt (c + 1))), (8, .long j1022), (5, .int (Int32.ofInt e1015)), (7, .int (Int32.ofInt (iC t 15 ((zv + c)).toNat))), (0, .ref (A 3)), (2, .ref (A 18)), (1, .int (Int32.ofInt xv)), (3, .int (Int32.ofInt zv)), (4, .int (Int32.ofInt wv))]) (show cdA 107 147 = some (.iinc 6 1, 3, 0, 0, 0) from rfl) (by decide) (List.Mem.tail _ (List.Mem.tail _ (List.Mem.tail _ (List.Mem.tail _ (List.Mem.tail _ (List.Mem.tail _ (List.Mem.tail _ (List.Mem.tail _ (List.Mem.head _))))))))) (fun _ h => h) ?_
          refine z_goto X (t := 35) (show cdA 107 150 = some (.goto (-115), 3, 0, 0, 0) from rfl) (by decide) ?_
          refine WS_lv (lv := [(0, .ref (A 3)), (2, .ref (A 18)), (1, .int (Int32.ofInt xv)), (3, .int (Int32.ofInt zv)), (4, .int (Int32.ofInt wv)), (5, .int (Int32.ofInt e1015)), (6, .int (Int32.ofInt (c + 1)))]) (List.forall_mem_cons.mpr ⟨(List.Mem.tail _ (List.Mem.tail _ (List.Mem.tail _ (List.Mem.tail _ (List.Mem.head _))))), (List.forall_mem_cons.mpr ⟨(List.Mem.tail _ (List.Mem.tail _ (List.Mem.tail _ (List.Mem.tail _ (List.Mem.tail _ (List.Mem.head _)))))), (List.forall_mem_cons.mpr ⟨(List.Mem.tail _ (List.Mem.tail _ (List.Mem.tail _ (List.Mem.tail _ (List.Mem.tail _ (List.Mem.tail _ (List.Mem.head _))))))), (List.forall_mem_cons.mpr ⟨(List.Mem.tail _ (List.Mem.tail _ (List.Mem.tail _ (List.Mem.tail _ (List.Mem.tail _ (List.Mem.tail _ (List.Mem.tail _ (List.Mem.head _)))))))), (List.forall_mem_cons.mpr ⟨(List.Mem.tail _ (List.Mem.tail _ (List.Mem.tail _ (List.Mem.tail _ (List.Mem.tail _ (List.Mem.tail _ (List.Mem.tail _ (List.Mem.tail _ (List.Mem.head _))))))))), (List.forall_mem_cons.mpr ⟨(List.Mem.tail _ (List.Mem.tail _ (List.Mem.head _))), (List.forall_mem_cons.mpr ⟨(List.Mem.head _), (fun q h => absurd h List.not_mem_nil)⟩)⟩)⟩)⟩)⟩)⟩)⟩) ?_
          exact ih _ xv zv wv e1015 (c + 1) Is1028 Fs1028 (cwf_sam hq aws1028_1 aws1028_2) (by first | exact ⟨And.intro (hi.1.1) (hi.1.2), And.intro (hi.2.1.1) (hi.2.1.2), And.intro (hi.2.2.1.1) (hi.2.2.1.2), And.intro (hps1014.1) (oq_b982df86 hps1014.2), oq_54f49eb5 hi.2.2.2.2.1, oq_bbeecdc2 g1003 hi.2.1.2⟩ | omega) (by first | exact qk_me hm (by decide) (oq_261750be g1003 hi.2.1.2) | omega) kx
  refine z_aload_n X (x := A 18) (show cdA 107 0 = some (.aload_n 2, 1, 0, 0, 0) from rfl) (List.Mem.tail _ (List.Mem.tail _ (List.Mem.head _))) ?_
  refine z_load_n X (x := z) (show cdA 107 1 = some (.iload_n 3, 1, 0, 0, 0) from rfl) (List.Mem.tail _ (List.Mem.tail _ (List.Mem.tail _ (List.Mem.head _)))) ?_
  refine z_aload_n X (x := A 3) (show cdA 107 2 = some (.aload_n 0, 1, 0, 0, 0) from rfl) (List.Mem.head _) ?_
  refine s_getR X 3 (show cdA 107 3 = some (.getfield 9, 3, 9, 1, 0) from rfl) (by decide) rfl rfl ?_
  refine z_load_n X (x := x) (show cdA 107 6 = some (.iload_n 1, 1, 0, 0, 0) from rfl) (List.Mem.tail _ (List.Mem.head _)) ?_
  refine z_bipush X (show cdA 107 7 = some (.bipush 24, 2, 0, 0, 24) from rfl) ?_
  refine z_mul X (show cdA 107 9 = some (.imul, 1, 0, 0, 0) from rfl) ?_
  refine z_load X (x := w) (show cdA 107 10 = some (.iload 4, 2, 0, 0, 0) from rfl) (List.Mem.tail _ (List.Mem.tail _ (List.Mem.tail _ (List.Mem.tail _ (List.Mem.head _))))) ?_
  refine z_copyF X I 18 4 (st := []) (show cdA 107 12 = some (.invokestatic 109, 3, 0, 5, 0) from rfl) (by decide) (by decide) rfl rfl (by omega) (by omega) (by omega) (show z + w ≤ ((24 : Nat) : Int) by omega) (show (x * 24) + w ≤ ((288 : Nat) : Int) by omega) (by decide) (by rw [E.2.2.2]; decide) (by rw [E.2.2.2]; exact Nat.le_of_ble_eq_true rfl) (fun s1 Is1 Fs1 cs1 => ?_)
  have Gs1 := fm_ts F Fs1 (by decide) (by decide)
  refine z_aload_n X (x := A 3) (show cdA 107 15 = some (.aload_n 0, 1, 0, 0, 0) from rfl) (List.Mem.head _) ?_
  refine s_getR X 3 (show cdA 107 16 = some (.getfield 15, 3, 9, 2, 0) from rfl) (by decide) rfl rfl ?_
  refine z_load_n X (x := x) (show cdA 107 19 = some (.iload_n 1, 1, 0, 0, 0) from rfl) (List.Mem.tail _ (List.Mem.head _)) ?_
  refine z_load X (x := w) (show cdA 107 20 = some (.iload 4, 2, 0, 0, 0) from rfl) (List.Mem.tail _ (List.Mem.tail _ (List.Mem.tail _ (List.Mem.tail _ (List.Mem.head _))))) ?_
  refine z_ast X 5 (show cdA 107 22 = some (.iastore, 1, 0, 0, 0) from rfl) (by decide) rfl (by first | exact p0.1 | omega) (show x < 12 by first | exact oq_0ddfcfee p0.2 | omega) (by decide) ?_
  obtain ⟨s2, hs2⟩ : ∃ x0, x0 = uC s1 2 (x).toNat (Int32.ofInt w) := ⟨_, rfl⟩
  rw [← hs2]
  have Is2 : Bd s2 := by rw [hs2]; exact bd_C Is1 (show (0 : Int) ≤ w ∧ w ≤ 24 by first | exact ⟨p1.1, p1.2⟩ | omega) ⟨by first | exact oq_fa4e5087 p1.1 | omega, by first | exact oq_5bcd337f p1.2 | omega⟩
  have Fs2 := fm_C (i := (x).toNat) (x := Int32.ofInt w) Gs1 (show 2 ∈ _ by decide)
  rw [← hs2] at Fs2
  have aws2_1 : SAM 1 s1 s2 := by rw [hs2]; exact sam_C (by decide) (sam_rf (a := 1) (s := s1))
  have aws2_2 : UPD 2 (x) w s1 s2 := by rw [hs2]; exact upd_put (sam_rf (a := 2) (s := s1)) ⟨by first | exact oq_fa4e5087 p1.1 | omega, by first | exact oq_5bcd337f p1.2 | omega⟩
  refine z_aload_n X (x := A 3) (show cdA 107 23 = some (.aload_n 0, 1, 0, 0, 0) from rfl) (List.Mem.head _) ?_
  refine z_load_n X (x := x) (show cdA 107 24 = some (.iload_n 1, 1, 0, 0, 0) from rfl) (List.Mem.tail _ (List.Mem.head _)) ?_
  refine z_callV X 3 (rm := rmN 108) (As := [.int (Int32.ofInt x)]) (st := []) (show cdA 107 25 = some (.invokevirtual 115, 3, 108, 0, 0) from rfl) rfl (by decide) rfl (by rw [E.1, E.2.1, E.2.2.1]; exact c9_wipe_3 G Is2 (by first | exact ⟨p0.1, p0.2⟩ | omega)) ⟨by rw [E.2.2.2]; exact (show (rmN 108).frames + 1 ≤ (rmN 107).frames by decide), by rw [E.2.2.2]; exact (show 8 + (mNL (miB 108) + 11) + (rmN 108).locals ≤ (rmN 107).locals by decide), by rw [E.2.2.2]; exact (show 0 + (rmN 108).cells ≤ (rmN 107).cells by decide), by rw [E.2.2.2]; exact (show 0 + (rmN 108).slots ≤ (rmN 107).slots by decide)⟩ (Nat.le_of_ble_eq_true rfl) (fun vv s3 hq => ?_) (fun ee s3 hq => ?_)
  rotate_left
  · obtain ⟨Is3, Fs3, hv, hps3⟩ := hq; cases hv
  obtain ⟨Is3, Fs3, hv, hps3⟩ := hq
  cases hv
  have Gs3 := fm_ts Fs2 Fs3 (by decide) (by decide)
  have aws3_1 : SAM 1 s1 s3 := sam_ts aws2_1 (sam_fm Fs3 (by decide))
  have aws3_2 : UPD 2 (x) w s1 s3 := upd_ts aws2_2 (sam_fm Fs3 (by decide))
  show WS k 28 [(0, .ref (A 3)), (1, .int (Int32.ofInt x)), (2, .ref (A 18)), (3, .int (Int32.ofInt z)), (4, .int (Int32.ofInt w))] [] (Wd A dT s3) 0 0
  refine z_bipush X (show cdA 107 28 = some (.bipush 6, 2, 0, 0, 6) from rfl) ?_
  refine z_store X (lv' := [(5, .int (Int32.ofInt 6)), (0, .ref (A 3)), (1, .int (Int32.ofInt x)), (2, .ref (A 18)), (3, .int (Int32.ofInt z)), (4, .int (Int32.ofInt w))]) (show cdA 107 30 = some (.istore 5, 2, 0, 0, 0) from rfl) (by decide) (fun _ h => h) ?_
  refine z_const X (show cdA 107 32 = some (.iconst 0, 1, 0, 0, 0) from rfl) ?_
  refine z_store X (lv' := [(6, .int (Int32.ofInt 0)), (5, .int (Int32.ofInt 6)), (0, .ref (A 3)), (1, .int (Int32.ofInt x)), (2, .ref (A 18)), (3, .int (Int32.ofInt z)), (4, .int (Int32.ofInt w))]) (show cdA 107 33 = some (.istore 6, 2, 0, 0, 0) from rfl) (by decide) (fun _ h => h) ?_
  refine WS_lv (lv := [(0, .ref (A 3)), (2, .ref (A 18)), (1, .int (Int32.ofInt x)), (3, .int (Int32.ofInt z)), (4, .int (Int32.ofInt w)), (5, .int (Int32.ofInt 6)), (6, .int (Int32.ofInt 0))]) (List.forall_mem_cons.mpr ⟨(List.Mem.tail _ (List.Mem.tail _ (List.Mem.head _))), (List.forall_mem_cons.mpr ⟨(List.Mem.tail _ (List.Mem.tail _ (List.Mem.tail _ (List.Mem.tail _ (List.Mem.head _))))), (List.forall_mem_cons.mpr ⟨(List.Mem.tail _ (List.Mem.tail _ (List.Mem.tail _ (List.Mem.head _)))), (List.forall_mem_cons.mpr ⟨(List.Mem.tail _ (List.Mem.tail _ (List.Mem.tail _ (List.Mem.tail _ (List.Mem.tail _ (List.Mem.head _)))))), (List.forall_mem_cons.mpr ⟨(List.Mem.tail _ (List.Mem.tail _ (List.Mem.tail _ (List.Mem.tail _ (List.Mem.tail _ (List.Mem.tail _ (List.Mem.head _))))))), (List.forall_mem_cons.mpr ⟨(List.Mem.tail _ (List.Mem.head _)), (List.forall_mem_cons.mpr ⟨(List.Mem.head _), (fun q h => absurd h List.not_mem_nil)⟩)⟩)⟩)⟩)⟩)⟩)⟩) ?_
  refine L35 ((24 - 0 : Int).toNat + 1) s3 x z w 6 0 Is3 Gs3 (cwf_of (u := s1) cs1 (by omega) aws3_1 (sam_fm Fs1 (by decide)) aws3_2) (by first | exact ⟨And.intro (p0.1) (p0.2), And.intro (p1.1) (p1.2), And.intro (oq_0b35aa92 p2.1) (p2.2), And.intro (by decide) (by decide), by decide, by decide⟩ | omega) (Nat.lt_succ_self _) ?_
  intro s5 x6 x7 Is5 Fs5 Qs5 hs5
  exact w_vret X.1 q hRt (ax_d X (show cdA 107 153 = some (.return_, 1, 0, 0, 0) from rfl)) (Nat.zero_le _) (Nat.zero_le _) ⟨_, rfl, Is5, Fs5, rfl, Qs5⟩
set_option maxRecDepth 4000 in
theorem c9_addTrialF (G : GX l s0 D tys a0 dT) (I : Bd s)  : CT l s0 D A dT 106 (rmN 106) [.ref (A 3)] s (fun o t => Bd t ∧ Fm [9, 10] [1, 2, 6, 1003, 1004, 1005, 1007] s t ∧ ∃ e, o = .inl (some (.int (Int32.ofInt e))) ∧ rng e ∧ ((iI s 9 = 12 ∧ iI t 9 = 12 ∧ SAM 1 s t ∧ SAM 2 s t) ∨ (iI s 9 ≤ 11 ∧ iI t 9 = iI s 9 + 1 ∧ CWF (iI s 9) (iI s 11) s t))) := by
  refine ct_ofX G (by decide) (Nat.le_of_ble_eq_true rfl) (fun k X E ET hRt hXt q => ?_)
  show WS k 0 [(0, .ref (A 3))] [] _ 0 0
  have F : Fm [9, 10] [1, 2, 6, 1003, 1004, 1005, 1007] s s := fm_rf _ _ s
  have aw0_1 : SAM 1 s s := sam_rf
  have aw0_2 : SAM 2 s s := sam_rf
  have b1 : (0 : Int) ≤ iI s 9 ∧ iI s 9 ≤ 12 := I.1 9
  have b2 : (0 : Int) ≤ iI s 11 ∧ iI s 11 ≤ 24 := I.1 11
  refine z_aload_n X (x := A 3) (show cdA 106 0 = some (.aload_n 0, 1, 0, 0, 0) from rfl) (List.Mem.head _) ?_
  refine z_getI X 3 (show cdA 106 1 = some (.getfield 99, 3, 9, 0, 0) from rfl) (by decide) rfl rfl ?_
  have b3 : (0 : Int) ≤ iI s 9 ∧ iI s 9 ≤ 12 := I.1 9
  refine z_bipush X (show cdA 106 4 = some (.bipush 12, 2, 0, 0, 12) from rfl) ?_
  refine z_icmp_lt X (t := 11) (show cdA 106 6 = some (.if_icmp .lt 5, 3, 2, 0, 0) from rfl) (by decide) (rng_to _) (by decide) (fun g4 => ?_) (fun g4 => ?_)
  ·
    refine z_aload_n X (x := A 3) (show cdA 106 11 = some (.aload_n 0, 1, 0, 0, 0) from rfl) (List.Mem.head _) ?_
    refine z_aload_n X (x := A 3) (show cdA 106 12 = some (.aload_n 0, 1, 0, 0, 0) from rfl) (List.Mem.head _) ?_
    refine z_getI X 3 (show cdA 106 13 = some (.getfield 99, 3, 9, 0, 0) from rfl) (by decide) rfl rfl ?_
    have b5 : (0 : Int) ≤ iI s 9 ∧ iI s 9 ≤ 12 := I.1 9
    refine z_aload_n X (x := A 3) (show cdA 106 16 = some (.aload_n 0, 1, 0, 0, 0) from rfl) (List.Mem.head _) ?_
    refine s_getR X 3 (show cdA 106 17 = some (.getfield 55, 3, 9, 16, 0) from rfl) (by decide) rfl rfl ?_
    refine z_const X (show cdA 106 20 = some (.iconst 0, 1, 0, 0, 0) from rfl) ?_
    refine z_aload_n X (x := A 3) (show cdA 106 21 = some (.aload_n 0, 1, 0, 0, 0) from rfl) (List.Mem.head _) ?_
    refine z_getI X 3 (show cdA 106 22 = some (.getfield 58, 3, 9, 17, 0) from rfl) (by decide) rfl rfl ?_
    have b6 : (0 : Int) ≤ iI s 11 ∧ iI s 11 ≤ 24 := I.1 11
    refine z_callV X 3 (rm := rmN 107) (As := [.int (Int32.ofInt (iI s 9)), .ref (A 18), .int (Int32.ofInt 0), .int (Int32.ofInt (iI s 11))]) (st := []) (show cdA 106 25 = some (.invokevirtual 102, 3, 107, 0, 0) from rfl) rfl (by decide) rfl (by rw [E.1, E.2.1, E.2.2.1]; exact c9_setWayF G I (by first | exact ⟨b5.1, oq_a1a2e1c8 g4⟩ | omega) (by first | exact ⟨b6.1, b6.2⟩ | omega) (by first | exact ⟨by decide, oq_4854286b b6.2⟩ | omega)) ⟨by rw [E.2.2.2]; exact (show (rmN 107).frames + 1 ≤ (rmN 106).frames by decide), by rw [E.2.2.2]; exact (show 8 + (mNL (miB 107) + 11) + (rmN 107).locals ≤ (rmN 106).locals by decide), by rw [E.2.2.2]; exact (show 0 + (rmN 107).cells ≤ (rmN 106).cells by decide), by rw [E.2.2.2]; exact (show 0 + (rmN 107).slots ≤ (rmN 106).slots by decide)⟩ (Nat.le_of_ble_eq_true rfl) (fun vv s7 hq => ?_) (fun ee s7 hq => ?_)
    rotate_left
    · obtain ⟨Is7, Fs7, hv, hps7⟩ := hq; cases hv
    obtain ⟨Is7, Fs7, hv, hps7⟩ := hq
    cases hv
    have Gs7 := fm_ts F Fs7 (by decide) (by decide)
    have ws7_9 : iI s7 9 = iI s 9 := fm_i Fs7 (by decide)
    have ws7_11 : iI s7 11 = iI s 11 := fm_i Fs7 (by decide)
    show WS k 28 [(0, .ref (A 3))] [] (Wd A dT s7) 0 0
    refine z_aload_n X (x := A 3) (show cdA 106 28 = some (.aload_n 0, 1, 0, 0, 0) from rfl) (List.Mem.head _) ?_
    refine w_dup X.1 (ax_d X (show cdA 106 29 = some (.dup, 1, 0, 0, 0) from rfl)) rfl ?_
    refine z_getI X 3 (show cdA 106 30 = some (.getfield 99, 3, 9, 0, 0) from rfl) (by decide) rfl rfl ?_
    have b9 : (0 : Int) ≤ iI s7 9 ∧ iI s7 9 ≤ 12 := Is7.1 9
    refine z_const X (show cdA 106 33 = some (.iconst 1, 1, 0, 0, 0) from rfl) ?_
    refine z_add X (show cdA 106 34 = some (.iadd, 1, 0, 0, 0) from rfl) ?_
    refine s_putI X 3 (show cdA 106 35 = some (.putfield 99, 3, 9, 0, 0) from rfl) (by decide) rfl rfl (by decide) rfl rfl rfl ?_
    obtain ⟨s10, hs10⟩ : ∃ x0, x0 = uI s7 9 (Int32.ofInt ((iI s7 9) + 1)) := ⟨_, rfl⟩
    rw [← hs10]
    have Is10 : Bd s10 := by rw [hs10]; exact bd_I Is7 (show (0 : Int) ≤ ((iI s7 9) + 1) ∧ ((iI s7 9) + 1) ≤ 12 by first | exact ⟨oq_54f49eb5 b9.1, oq_3bc6d8e6 ws7_9 g4⟩ | omega) ⟨by first | exact oq_74de1e16 b9.1 | omega, by first | exact oq_76a8a5b7 b9.2 | omega⟩
    have Fs10 := fm_I (x := Int32.ofInt ((iI s7 9) + 1)) Gs7 (show 9 ∈ _ by decide)
    rw [← hs10] at Fs10
    have vs10 : iI s10 9 = ((iI s7 9) + 1) := by rw [hs10]; exact iI_u ⟨by first | exact oq_74de1e16 b9.1 | omega, by first | exact oq_76a8a5b7 b9.2 | omega⟩
    have ws10_11 : iI s10 11 = iI s7 11 := by rw [hs10]; rfl
    have aws10_1 : SAM 1 s7 s10 := by rw [hs10]; exact (sam_rf (a := 1) (s := s7))
    have aws10_2 : SAM 2 s7 s10 := by rw [hs10]; exact (sam_rf (a := 2) (s := s7))
    refine z_aload_n X (x := A 3) (show cdA 106 38 = some (.aload_n 0, 1, 0, 0, 0) from rfl) (List.Mem.head _) ?_
    refine z_callV X 3 (rm := rmN 110) (As := []) (st := []) (show cdA 106 39 = some (.invokevirtual 106, 3, 110, 0, 0) from rfl) rfl (by decide) rfl (by rw [E.1, E.2.1, E.2.2.1]; exact c9_pairUp_3 G Is10 ) ⟨by rw [E.2.2.2]; exact (show (rmN 110).frames + 1 ≤ (rmN 106).frames by decide), by rw [E.2.2.2]; exact (show 8 + (mNL (miB 110) + 11) + (rmN 110).locals ≤ (rmN 106).locals by decide), by rw [E.2.2.2]; exact (show 0 + (rmN 110).cells ≤ (rmN 106).cells by decide), by rw [E.2.2.2]; exact (show 0 + (rmN 110).slots ≤ (rmN 106).slots by decide)⟩ (Nat.le_of_ble_eq_true rfl) (fun vv s11 hq => ?_) (fun ee s11 hq => ?_)
    rotate_left
    · obtain ⟨Is11, Fs11, hv, hps11⟩ := hq; cases hv
    obtain ⟨Is11, Fs11, hv, hps11⟩ := hq
    cases hv
    have Gs11 := fm_ts Fs10 Fs11 (by decide) (by decide)
    have ws11_9 : iI s11 9 = iI s10 9 := fm_i Fs11 (by decide)
    have ws11_11 : iI s11 11 = iI s10 11 := fm_i Fs11 (by decide)
    have aws11_1 : SAM 1 s7 s11 := sam_ts aws10_1 (sam_fm Fs11 (by decide))
    have aws11_2 : SAM 2 s7 s11 := sam_ts aws10_2 (sam_fm Fs11 (by decide))
    show WS k 42 [(0, .ref (A 3))] [] (Wd A dT s11) 0 0
    refine z_aload_n X (x := A 3) (show cdA 106 42 = some (.aload_n 0, 1, 0, 0, 0) from rfl) (List.Mem.head _) ?_
    refine z_getI X 3 (show cdA 106 43 = some (.getfield 99, 3, 9, 0, 0) from rfl) (by decide) rfl rfl ?_
    have b13 : (0 : Int) ≤ iI s11 9 ∧ iI s11 9 ≤ 12 := Is11.1 9
    refine z_const X (show cdA 106 46 = some (.iconst 1, 1, 0, 0, 0) from rfl) ?_
    refine z_sub X (show cdA 106 47 = some (.isub, 1, 0, 0, 0) from rfl) ?_
    exact w_iret X.1 q hRt rfl (ax_d X (show cdA 106 48 = some (.ireturn, 1, 0, 0, 0) from rfl)) (Nat.zero_le _) (Nat.zero_le _) ⟨_, rfl, Is11, Gs11, ((iI s11 9) - 1), rfl, ⟨by first | exact oq_c1e961c7 b13.1 | omega, by first | exact oq_d526ebd3 b13.2 | omega⟩, Or.inr ⟨by first | exact oq_a1a2e1c8 g4 | omega, by first | exact oq_20fce6d9 ws11_9 vs10 ws7_9 | omega, cwf_sam hps7 aws11_1 aws11_2⟩⟩
  ·
    refine z_const X (show cdA 106 9 = some (.iconst (-1), 1, 0, 0, 0) from rfl) ?_
    exact w_iret X.1 q hRt rfl (ax_d X (show cdA 106 10 = some (.ireturn, 1, 0, 0, 0) from rfl)) (Nat.zero_le _) (Nat.zero_le _) ⟨_, rfl, I, F, (-1), rfl, (by decide), Or.inl ⟨by first | exact oq_8e7d85da b3.2 g4 | omega, by first | exact oq_8e7d85da b3.2 g4 | omega, aw0_1, aw0_2⟩⟩
set_option maxRecDepth 4000 in
theorem cs_stream3 (G : GX l s0 D tys a0 dT) {B : Nat → Int} (I : Bd s) (jBYA : BYA B s) {w : Int} (p0 : rng w) : CT l s0 D A dT 136 (rmN 136) [.ref (A 0), .int (Int32.ofInt w)] s (fun o t => Bd t ∧ Fm [11, 9, 10, 2, 4, 6, 5, 1, 3, 0, 7, 8] [15, 1, 2, 6, 1003, 1004, 1005, 1007] s t ∧ ((∃ e, o = .inl (some (.int (Int32.ofInt e))) ∧ rng e ∧ (iI t 0 = 0 ∧ 0 ≤ w ∧ w ≤ iI s 0 ∧ w ≤ 100 ∧ STRx B w (iI s 9) (iI t 9) ∧ WNC B w s t)) ∨ ∃ x : Nat, o = .inr (exN x) ∧ (x = 0 ∧ iI t 0 = iI s 0 ∧ (w < 0 ∨ iI s 0 < w ∨ 100 < w) ∧ iI t 9 = iI s 9 ∧ SAM 1 s t ∧ SAM 2 s t))) := by
  refine ct_ofX G (by decide) (Nat.le_of_ble_eq_true rfl) (fun k X E ET hRt hXt q => ?_)
  show WS k 0 [(0, .ref (A 0)), (1, .int (Int32.ofInt w))] [] _ 0 0
  have F : Fm [11, 9, 10, 2, 4, 6, 5, 1, 3, 0, 7, 8] [15, 1, 2, 6, 1003, 1004, 1005, 1007] s s := fm_rf _ _ s
  have aw0_1 : SAM 1 s s := sam_rf
  have aw0_2 : SAM 2 s s := sam_rf
  have b1 : (0 : Int) ≤ iI s 0 ∧ iI s 0 ≤ 200 := I.1 0
  have b2 : (0 : Int) ≤ iI s 9 ∧ iI s 9 ≤ 12 := I.1 9
  have b3 : (0 : Int) ≤ iI s 11 ∧ iI s 11 ≤ 24 := I.1 11
  have b4 : (0 : Int) ≤ iI s 2 ∧ iI s 2 ≤ 200 := I.1 2
  have b5 : (0 : Int) ≤ iI s 1 ∧ iI s 1 ≤ 200 := I.1 1
  have b6 : (0 : Int) ≤ iI s 4 ∧ iI s 4 ≤ 200 := I.1 4
  refine z_load_n X (x := w) (show cdA 136 0 = some (.iload_n 1, 1, 0, 0, 0) from rfl) (List.Mem.tail _ (List.Mem.head _)) ?_
  refine z_if_lt X (t := 21) (show cdA 136 1 = some (.ifCond .lt 20, 3, 2, 0, 0) from rfl) (by decide) ⟨by first | exact p0.1 | omega, by first | exact p0.2 | omega⟩ (fun g7 => ?_) (fun g7 => ?_)
  ·
    exact z_throw G X E ET hXt q (st := []) (show cdA 136 21 = some (.new 108, 3, 0, 1, 0) from rfl) (by decide) (by decide) (Nat.le_of_ble_eq_true rfl) (show 0 + 1 ≤ 1 by omega) (show 0 + 6 ≤ 6 by omega) (show 0 + 1 ≤ 1 by omega) (show 0 + 6 ≤ 6 by omega) ⟨_, rfl, I, F, Or.inr ⟨0, rfl, ⟨by omega, by omega, by omega, by omega, aw0_1, aw0_2⟩⟩⟩
  ·
    refine z_load_n X (x := w) (show cdA 136 4 = some (.iload_n 1, 1, 0, 0, 0) from rfl) (List.Mem.tail _ (List.Mem.head _)) ?_
    refine z_aload_n X (x := A 0) (show cdA 136 5 = some (.aload_n 0, 1, 0, 0, 0) from rfl) (List.Mem.head _) ?_
    refine s_getR X 0 (show cdA 136 6 = some (.getfield 10, 3, 11, 0, 0) from rfl) (by decide) rfl rfl ?_
    refine z_getI X 1 (show cdA 136 9 = some (.getfield 104, 3, 10, 1, 0) from rfl) (by decide) rfl rfl ?_
    have b8 : (0 : Int) ≤ iI s 0 ∧ iI s 0 ≤ 200 := I.1 0
    refine z_icmp_gt X (t := 21) (show cdA 136 12 = some (.if_icmp .gt 9, 3, 4, 0, 0) from rfl) (by decide) ⟨by first | exact p0.1 | omega, by first | exact p0.2 | omega⟩ (rng_to _) (fun g9 => ?_) (fun g9 => ?_)
    ·
      exact z_throw G X E ET hXt q (st := []) (show cdA 136 21 = some (.new 108, 3, 0, 1, 0) from rfl) (by decide) (by decide) (Nat.le_of_ble_eq_true rfl) (show 0 + 1 ≤ 1 by omega) (show 0 + 6 ≤ 6 by omega) (show 0 + 1 ≤ 1 by omega) (show 0 + 6 ≤ 6 by omega) ⟨_, rfl, I, F, Or.inr ⟨0, rfl, ⟨by omega, by omega, by omega, by omega, aw0_1, aw0_2⟩⟩⟩
    ·
      refine z_load_n X (x := w) (show cdA 136 15 = some (.iload_n 1, 1, 0, 0, 0) from rfl) (List.Mem.tail _ (List.Mem.head _)) ?_
      refine z_bipush X (show cdA 136 16 = some (.bipush 100, 2, 0, 0, 100) from rfl) ?_
      refine z_icmp_le X (t := 31) (show cdA 136 18 = some (.if_icmp .le 13, 3, 5, 0, 0) from rfl) (by decide) ⟨by first | exact p0.1 | omega, by first | exact p0.2 | omega⟩ (by decide) (fun g10 => ?_) (fun g10 => ?_)
      ·
        refine z_aload_n X (x := A 0) (show cdA 136 31 = some (.aload_n 0, 1, 0, 0, 0) from rfl) (List.Mem.head _) ?_
        refine s_getR X 0 (show cdA 136 32 = some (.getfield 10, 3, 11, 0, 0) from rfl) (by decide) rfl rfl ?_
        refine z_load_n X (x := w) (show cdA 136 35 = some (.iload_n 1, 1, 0, 0, 0) from rfl) (List.Mem.tail _ (List.Mem.head _)) ?_
        refine z_const X (show cdA 136 36 = some (.iconst 0, 1, 0, 0, 0) from rfl) ?_
        refine z_callV X 1 (rm := rmN 128) (As := [.int (Int32.ofInt w), .int (Int32.ofInt 0)]) (st := []) (show cdA 136 37 = some (.invokevirtual 115, 3, 128, 0, 0) from rfl) rfl (by decide) rfl (by rw [E.1, E.2.1, E.2.2.1]; exact c10_open2 G I jBYA (by first | exact ⟨g7, oq_6ab87361 g10⟩ | omega) (by decide)) ⟨by rw [E.2.2.2]; exact (show (rmN 128).frames + 1 ≤ (rmN 136).frames by decide), by rw [E.2.2.2]; exact (show 8 + (mNL (miB 128) + 11) + (rmN 128).locals ≤ (rmN 136).locals by decide), by rw [E.2.2.2]; exact (show 0 + (rmN 128).cells ≤ (rmN 136).cells by decide), by rw [E.2.2.2]; exact (show 0 + (rmN 128).slots ≤ (rmN 136).slots by decide)⟩ (Nat.le_of_ble_eq_true rfl) (fun vv s11 hq => ?_) (fun ee s11 hq => ?_)
        rotate_left
        · obtain ⟨Is11, Fs11, JBYB_s11, hv, hps11⟩ := hq; cases hv
        obtain ⟨Is11, Fs11, JBYB_s11, hv, hps11⟩ := hq
        cases hv
        have Gs11 := fm_ts F Fs11 (by decide) (by decide)
        have JBYA_s11 : BYA B s11 := BYA_fm Fs11 (by decide) jBYA
        have b13 : (0 : Int) ≤ iI s11 0 ∧ iI s11 0 ≤ 200 := Is11.1 0
        have ws11_9 : iI s11 9 = iI s 9 := fm_i Fs11 (by decide)
        have ws11_11 : iI s11 11 = iI s 11 := fm_i Fs11 (by decide)
        have b14 : (0 : Int) ≤ iI s11 2 ∧ iI s11 2 ≤ 200 := Is11.1 2
        have b15 : (0 : Int) ≤ iI s11 1 ∧ iI s11 1 ≤ 200 := Is11.1 1
        have b16 : (0 : Int) ≤ iI s11 4 ∧ iI s11 4 ≤ 200 := Is11.1 4
        have aws11_1 : SAM 1 s s11 := sam_ts aw0_1 (sam_fm Fs11 (by decide))
        have aws11_2 : SAM 2 s s11 := sam_ts aw0_2 (sam_fm Fs11 (by decide))
        show WS k 40 [(0, .ref (A 0)), (1, .int (Int32.ofInt w))] [] (Wd A dT s11) 0 0
        refine z_aload_n X (x := A 0) (show cdA 136 40 = some (.aload_n 0, 1, 0, 0, 0) from rfl) (List.Mem.head _) ?_
        refine s_getR X 0 (show cdA 136 41 = some (.getfield 19, 3, 11, 1, 0) from rfl) (by decide) rfl rfl ?_
        refine z_aload_n X (x := A 0) (show cdA 136 44 = some (.aload_n 0, 1, 0, 0, 0) from rfl) (List.Mem.head _) ?_
        refine s_getR X 0 (show cdA 136 45 = some (.getfield 10, 3, 11, 0, 0) from rfl) (by decide) rfl rfl ?_
        refine z_callV X 3 (rm := rmN 103) (As := [.ref (A 1)]) (st := []) (show cdA 136 48 = some (.invokevirtual 119, 3, 103, 0, 0) from rfl) rfl (by decide) rfl (by rw [E.1, E.2.1, E.2.2.1]; exact c9_readWay2 G hps11.2.2.2.2 hps11.2.2.2.1 Is11 JBYB_s11 (by first | exact hps11.2.1 | omega) (by first | exact hps11.2.2.1 | omega) (by omega)) ⟨by rw [E.2.2.2]; exact (show (rmN 103).frames + 1 ≤ (rmN 136).frames by decide), by rw [E.2.2.2]; exact (show 8 + (mNL (miB 103) + 11) + (rmN 103).locals ≤ (rmN 136).locals by decide), by rw [E.2.2.2]; exact (show 0 + (rmN 103).cells ≤ (rmN 136).cells by decide), by rw [E.2.2.2]; exact (show 0 + (rmN 103).slots ≤ (rmN 136).slots by decide)⟩ (Nat.le_of_ble_eq_true rfl) (fun vv s17 hq => ?_) (fun ee s17 hq => ?_)
        rotate_left
        · obtain ⟨Is17, Fs17, JBYB_s17, e18, hv, hrs17, hps17⟩ := hq; cases hv
        obtain ⟨Is17, Fs17, JBYB_s17, e18, hv, hrs17, hps17⟩ := hq
        cases hv
        have Gs17 := fm_ts Gs11 Fs17 (by decide) (by decide)
        have JBYA_s17 : BYA B s17 := BYA_fm Fs17 (by decide) JBYA_s11
        have JBYB_s17 : BYB B w s17 := BYB_fm Fs17 (by decide) JBYB_s11
        have ws17_0 : iI s17 0 = iI s11 0 := fm_i Fs17 (by decide)
        have ws17_9 : iI s17 9 = iI s11 9 := fm_i Fs17 (by decide)
        have b19 : (0 : Int) ≤ iI s17 11 ∧ iI s17 11 ≤ 24 := Is17.1 11
        have b20 : (0 : Int) ≤ iI s17 2 ∧ iI s17 2 ≤ 200 := Is17.1 2
        have ws17_1 : iI s17 1 = iI s11 1 := fm_i Fs17 (by decide)
        have b21 : (0 : Int) ≤ iI s17 4 ∧ iI s17 4 ≤ 200 := Is17.1 4
        have aws17_1 : SAM 1 s s17 := sam_ts aws11_1 (sam_fm Fs17 (by decide))
        have aws17_2 : SAM 2 s s17 := sam_ts aws11_2 (sam_fm Fs17 (by decide))
        show WS k 51 [(0, .ref (A 0)), (1, .int (Int32.ofInt w))] [.int (Int32.ofInt e18)] (Wd A dT s17) 0 0
        refine z_if_ne X (t := 65) (show cdA 136 51 = some (.ifCond .ne 14, 3, 1, 0, 0) from rfl) (by decide) hrs17 (fun g22 => ?_) (fun g22 => ?_)
        ·
          refine z_aload_n X (x := A 0) (show cdA 136 65 = some (.aload_n 0, 1, 0, 0, 0) from rfl) (List.Mem.head _) ?_
          refine s_getR X 0 (show cdA 136 66 = some (.getfield 19, 3, 11, 1, 0) from rfl) (by decide) rfl rfl ?_
          refine z_callV X 3 (rm := rmN 106) (As := []) (st := []) (show cdA 136 69 = some (.invokevirtual 126, 3, 106, 0, 0) from rfl) rfl (by decide) rfl (by rw [E.1, E.2.1, E.2.2.1]; exact c9_addTrialF G Is17 ) ⟨by rw [E.2.2.2]; exact (show (rmN 106).frames + 1 ≤ (rmN 136).frames by decide), by rw [E.2.2.2]; exact (show 8 + (mNL (miB 106) + 11) + (rmN 106).locals ≤ (rmN 136).locals by decide), by rw [E.2.2.2]; exact (show 0 + (rmN 106).cells ≤ (rmN 136).cells by decide), by rw [E.2.2.2]; exact (show 0 + (rmN 106).slots ≤ (rmN 136).slots by decide)⟩ (Nat.le_of_ble_eq_true rfl) (fun vv s23 hq => ?_) (fun ee s23 hq => ?_)
          rotate_left
          · obtain ⟨Is23, Fs23, e24, hv, hrs23, hps23⟩ := hq; cases hv
          obtain ⟨Is23, Fs23, e24, hv, hrs23, hps23⟩ := hq
          cases hv
          have Gs23 := fm_ts Gs17 Fs23 (by decide) (by decide)
          have JBYA_s23 : BYA B s23 := BYA_fm Fs23 (by decide) JBYA_s17
          have JBYB_s23 : BYB B w s23 := BYB_fm Fs23 (by decide) JBYB_s17
          have ws23_0 : iI s23 0 = iI s17 0 := fm_i Fs23 (by decide)
          have b25 : (0 : Int) ≤ iI s23 9 ∧ iI s23 9 ≤ 12 := Is23.1 9
          have ws23_11 : iI s23 11 = iI s17 11 := fm_i Fs23 (by decide)
          have ws23_2 : iI s23 2 = iI s17 2 := fm_i Fs23 (by decide)
          have ws23_1 : iI s23 1 = iI s17 1 := fm_i Fs23 (by decide)
          have ws23_4 : iI s23 4 = iI s17 4 := fm_i Fs23 (by decide)
          show WS k 72 [(0, .ref (A 0)), (1, .int (Int32.ofInt w))] [.int (Int32.ofInt e24)] (Wd A dT s23) 0 0
          exact w_iret X.1 q hRt rfl (ax_d X (show cdA 136 72 = some (.ireturn, 1, 0, 0, 0) from rfl)) (Nat.zero_le _) (Nat.zero_le _) ⟨_, rfl, Is23, Gs23, Or.inl ⟨e24, rfl, hrs23, ⟨by first | exact oq_7fe879e0 ws23_0 ws17_0 hps11.1 b13.1 | omega, by first | exact g7 | omega, by first | exact g9 | omega, by first | exact g10 | omega, str_y (par_y hps17.2.2.2 (by omega)) (by have hz9 := at_c hps23; omega), wnc_at hps23 (par_p hps17.2.2.2 (by omega)) aws17_1 aws17_2 (by omega) (by omega)⟩⟩⟩
        ·
          refine z_aload_n X (x := A 0) (show cdA 136 54 = some (.aload_n 0, 1, 0, 0, 0) from rfl) (List.Mem.head _) ?_
          refine s_getR X 0 (show cdA 136 55 = some (.getfield 10, 3, 11, 0, 0) from rfl) (by decide) rfl rfl ?_
          refine z_getI X 1 (show cdA 136 58 = some (.getfield 123, 3, 10, 8, 0) from rfl) (by decide) rfl rfl ?_
          have b26 : (0 : Int) ≤ iI s17 7 ∧ iI s17 7 ≤ 9 := Is17.1 7
          refine z_bipush X (show cdA 136 61 = some (.bipush 10, 2, 0, 0, 10) from rfl) ?_
          refine z_sub X (show cdA 136 63 = some (.isub, 1, 0, 0, 0) from rfl) ?_
          exact w_iret X.1 q hRt rfl (ax_d X (show cdA 136 64 = some (.ireturn, 1, 0, 0, 0) from rfl)) (Nat.zero_le _) (Nat.zero_le _) ⟨_, rfl, Is17, Gs17, Or.inl ⟨((iI s17 7) - 10), rfl, ⟨by first | exact oq_d3c9ade5 b26.1 | omega, by first | exact oq_71609f9f b26.2 | omega⟩, ⟨by first | exact oq_333640b7 ws17_0 hps11.1 b13.1 | omega, by first | exact g7 | omega, by first | exact g9 | omega, by first | exact g10 | omega, str_n (par_n hps17.2.2.2 (by omega)) (by omega) (by omega), Or.inl ⟨by omega, aws17_1, aws17_2⟩⟩⟩⟩
      ·
        exact z_throw G X E ET hXt q (st := []) (show cdA 136 21 = some (.new 108, 3, 0, 1, 0) from rfl) (by decide) (by decide) (Nat.le_of_ble_eq_true rfl) (show 0 + 1 ≤ 1 by omega) (show 0 + 6 ≤ 6 by omega) (show 0 + 1 ≤ 1 by omega) (show 0 + 6 ≤ 6 by omega) ⟨_, rfl, I, F, Or.inr ⟨0, rfl, ⟨by omega, by omega, by omega, by omega, aw0_1, aw0_2⟩⟩⟩
set_option maxRecDepth 4000 in
theorem lw_stream3 (G : GX l s0 D tys a0 dT) {B : Nat → Int} (I : Bd s) (jBYA : BYA B s) {w : Int} (p0 : rng w) : CTL l s0 D A dT 314 (rmN 314) [.ref (A 0), .int (Int32.ofInt w), .ref (A 517)] s (fun o t => Bd t ∧ Fm [11, 9, 10, 2, 4, 6, 5, 1, 3, 0, 7, 8] [15, 1, 2, 6, 1003, 1004, 1005, 1007, 1460] s t ∧ ∃ e, o = .inl (some (.int (Int32.ofInt e))) ∧ rng e ∧ ((e = 0 ∧ iI t 0 = 0 ∧ 0 ≤ w ∧ w ≤ iI s 0 ∧ w ≤ 100 ∧ STRx B w (iI s 9) (iI t 9) ∧ WNC B w s t) ∨ (e = 1 ∧ iI t 0 = iI s 0 ∧ (w < 0 ∨ iI s 0 < w ∨ 100 < w) ∧ iI t 9 = iI s 9 ∧ SAM 1 s t ∧ SAM 2 s t))) := by
  refine ctL_of G (by decide) (Nat.le_of_ble_eq_true rfl) (by decide) (show cdA 314 0 = some (.aload_n 2, 1, 0, 0, 0) from rfl) (fun k X E ET hRt hEx q => ?_)
  show WS k 0 [(0, .ref (A 0)), (1, .int (Int32.ofInt w)), (2, .ref (A 517))] [] _ 0 0
  have F : Fm [11, 9, 10, 2, 4, 6, 5, 1, 3, 0, 7, 8] [15, 1, 2, 6, 1003, 1004, 1005, 1007, 1460] s s := fm_rf _ _ s
  have hA := swA_rf A
  have b1 : (0 : Int) ≤ iI s 0 ∧ iI s 0 ≤ 200 := I.1 0
  have b2 : (0 : Int) ≤ iI s 9 ∧ iI s 9 ≤ 12 := I.1 9
  refine z_aload_n X (x := A 517) (show cdA 314 0 = some (.aload_n 2, 1, 0, 0, 0) from rfl) (List.Mem.tail _ (List.Mem.tail _ (List.Mem.head _))) ?_
  refine z_const X (show cdA 314 1 = some (.iconst 0, 1, 0, 0, 0) from rfl) ?_
  refine z_aload_n X (x := A 0) (show cdA 314 2 = some (.aload_n 0, 1, 0, 0, 0) from rfl) (List.Mem.head _) ?_
  refine z_load_n X (x := w) (show cdA 314 3 = some (.iload_n 1, 1, 0, 0, 0) from rfl) (List.Mem.tail _ (List.Mem.head _)) ?_
  refine z_callV X 0 (rm := rmN 136) (As := [.int (Int32.ofInt w)]) (st := [.int (Int32.ofInt 0), .ref (A 517)]) (show cdA 314 4 = some (.invokevirtual 7, 3, 136, 0, 0) from rfl) rfl (by decide) rfl (by rw [E.1, E.2.1, E.2.2.1]; exact cs_stream3 G I jBYA (by omega)) ⟨by rw [E.2.2.2]; exact (show (rmN 136).frames + 1 ≤ (rmN 314).frames by decide), by rw [E.2.2.2]; exact (show 8 + (mNL (miB 136) + 11) + (rmN 136).locals ≤ (rmN 314).locals by decide), by rw [E.2.2.2]; exact (show 0 + (rmN 136).cells ≤ (rmN 314).cells by decide), by rw [E.2.2.2]; exact (show 0 + (rmN 136).slots ≤ (rmN 314).slots by decide)⟩ (Nat.le_of_ble_eq_true rfl) (fun vv s3 hq => ?_) (fun ee s3 hq => ?_)
  rotate_left
  · obtain ⟨Is3, Fs3, (⟨e4, hv, hrs3, hps3⟩ | ⟨xx, hv, hps3⟩)⟩ := hq
    · cases hv
    · cases hv
      rcases (show xx = 0 by omega) with gx
      ·
        subst gx
        have Gs3 := fm_ts F Fs3 (by decide) (by decide)
        have b5 : (0 : Int) ≤ iI s3 0 ∧ iI s3 0 ≤ 200 := Is3.1 0
        have b6 : (0 : Int) ≤ iI s3 9 ∧ iI s3 9 ≤ 12 := Is3.1 9
        refine (hEx 4 0).2 12 rfl _ _ _ _ _ (fun q1 => ?_)
        show WS k 12 [(0, .ref (A 0)), (1, .int (Int32.ofInt w)), (2, .ref (A 517))] [.ref q1] (Wd A dT s3) 1 6
        refine z_astore_n X (lv' := [(3, .ref q1), (0, .ref (A 0)), (1, .int (Int32.ofInt w)), (2, .ref (A 517))]) (show cdA 314 12 = some (.astore_n 3, 1, 0, 0, 0) from rfl) (by decide) (fun _ h => h) ?_
        refine z_const X (show cdA 314 13 = some (.iconst 1, 1, 0, 0, 0) from rfl) ?_
        exact w_iret X.1 q hRt rfl (ax_d X (show cdA 314 14 = some (.ireturn, 1, 0, 0, 0) from rfl)) (show 1 ≤ 1 by omega) (show 6 ≤ 6 by omega) ⟨A, _, hA, rfl, Is3, Gs3, 1, rfl, (by decide), Or.inr ⟨by decide, by omega, by omega, by omega, hps3.2.2.2.2⟩⟩
  obtain ⟨Is3, Fs3, (⟨e4, hv, hrs3, hps3⟩ | ⟨xx, hv, hps3⟩)⟩ := hq
  rotate_left
  · cases hv
  cases hv
  have Gs3 := fm_ts F Fs3 (by decide) (by decide)
  have b7 : (0 : Int) ≤ iI s3 0 ∧ iI s3 0 ≤ 200 := Is3.1 0
  have b8 : (0 : Int) ≤ iI s3 9 ∧ iI s3 9 ≤ 12 := Is3.1 9
  show WS k 7 [(0, .ref (A 0)), (1, .int (Int32.ofInt w)), (2, .ref (A 517))] [.int (Int32.ofInt e4), .int (Int32.ofInt 0), .ref (A 517)] (Wd A dT s3) 1 6
  refine w_i2l X.1 (ax_d X (show cdA 314 7 = some (.i2l, 1, 0, 0, 0) from rfl)) ?_
  refine z_last X 517 (show cdA 314 8 = some (.lastore, 1, 0, 0, 0) from rfl) (by decide) rfl (by omega) (show 0 < 1 by omega) (by decide) ?_
  obtain ⟨s9, hs9⟩ : ∃ x0, x0 = uD s3 460 (0 : Int).toNat (Int32.ofInt e4).toInt64 := ⟨_, rfl⟩
  rw [← hs9]
  have Is9 : Bd s9 := by rw [hs9]; exact bd_D Is3
  have Fs9 : Fm [11, 9, 10, 2, 4, 6, 5, 1, 3, 0, 7, 8] [15, 1, 2, 6, 1003, 1004, 1005, 1007, 1460] s s9 := by rw [hs9]; exact fm_D Gs3 (show 460 + 1000 ∈ _ by decide)
  have ws9_0 : iI s9 0 = iI s3 0 := by rw [hs9]; rfl
  have ws9_9 : iI s9 9 = iI s3 9 := by rw [hs9]; rfl
  have aws9_1 : SAM 1 s3 s9 := by rw [hs9]; exact (sam_rf (a := 1) (s := s3))
  have aws9_2 : SAM 2 s3 s9 := by rw [hs9]; exact (sam_rf (a := 2) (s := s3))
  have oos9 : iO s9 = e4 := by rw [hs9]; exact iO_u (by omega)
  refine z_goto X (t := 15) (show cdA 314 9 = some (.goto 6, 3, 0, 0, 0) from rfl) (by decide) ?_
  refine z_const X (show cdA 314 15 = some (.iconst 0, 1, 0, 0, 0) from rfl) ?_
  exact w_iret X.1 q hRt rfl (ax_d X (show cdA 314 16 = some (.ireturn, 1, 0, 0, 0) from rfl)) (show 1 ≤ 1 by omega) (show 6 ≤ 6 by omega) ⟨A, _, hA, rfl, Is9, Fs9, 0, rfl, (by decide), Or.inl ⟨by decide, by omega, by omega, by omega, by omega, by rw [show iI s9 9 = iI s3 9 by omega]; exact hps3.2.2.2.2.1, wnc_sam hps3.2.2.2.2.2 aws9_1 aws9_2 (by omega)⟩⟩
set_option maxRecDepth 4000 in
theorem c9_cellAtF (G : GX l s0 D tys a0 dT) (I : Bd s) {x y : Int} (p0 : 0 ≤ x ∧ x ≤ 11) (p1 : rng y) : CT l s0 D A dT 113 (rmN 113) [.ref (A 3), .int (Int32.ofInt x), .int (Int32.ofInt y)] s (fun o t => Bd t ∧ Fm [] [] s t ∧ ∃ e, o = .inl (some (.int (Int32.ofInt e))) ∧ rng e ∧ (-1 ≤ e ∧ e ≤ 127 ∧ ((0 ≤ y ∧ y < iC s 2 x.toNat ∧ e = iC s 1 (x * 24 + y).toNat) ∨ ((y < 0 ∨ iC s 2 x.toNat ≤ y) ∧ e = -1)))) := by
  refine ct_ofX G (by decide) (Nat.le_of_ble_eq_true rfl) (fun k X E ET hRt hXt q => ?_)
  show WS k 0 [(0, .ref (A 3)), (1, .int (Int32.ofInt x)), (2, .int (Int32.ofInt y))] [] _ 0 0
  have F : Fm [] [] s s := fm_rf _ _ s
  refine z_load_n X (x := y) (show cdA 113 0 = some (.iload_n 2, 1, 0, 0, 0) from rfl) (List.Mem.tail _ (List.Mem.tail _ (List.Mem.head _))) ?_
  refine z_if_lt X (t := 28) (show cdA 113 1 = some (.ifCond .lt 27, 3, 2, 0, 0) from rfl) (by decide) ⟨by first | exact p1.1 | omega, by first | exact p1.2 | omega⟩ (fun g1 => ?_) (fun g1 => ?_)
  ·
    refine z_const X (show cdA 113 28 = some (.iconst (-1), 1, 0, 0, 0) from rfl) ?_
    exact w_iret X.1 q hRt rfl (ax_d X (show cdA 113 29 = some (.ireturn, 1, 0, 0, 0) from rfl)) (Nat.zero_le _) (Nat.zero_le _) ⟨_, rfl, I, F, (-1), rfl, (by decide), by first | exact ⟨by decide, by decide, Or.inr (And.intro (Or.inl (g1)) (by decide))⟩ | omega⟩
  ·
    refine z_load_n X (x := y) (show cdA 113 4 = some (.iload_n 2, 1, 0, 0, 0) from rfl) (List.Mem.tail _ (List.Mem.tail _ (List.Mem.head _))) ?_
    refine z_aload_n X (x := A 3) (show cdA 113 5 = some (.aload_n 0, 1, 0, 0, 0) from rfl) (List.Mem.head _) ?_
    refine s_getR X 3 (show cdA 113 6 = some (.getfield 15, 3, 9, 2, 0) from rfl) (by decide) rfl rfl ?_
    refine z_load_n X (x := x) (show cdA 113 9 = some (.iload_n 1, 1, 0, 0, 0) from rfl) (List.Mem.tail _ (List.Mem.head _)) ?_
    refine z_ald X 5 (show cdA 113 10 = some (.iaload, 1, 0, 0, 0) from rfl) (by decide) rfl (by first | exact p0.1 | omega) (show x < 12 by first | exact oq_0ddfcfee p0.2 | omega) (by decide) ?_
    have b2 : (0 : Int) ≤ iC s 2 (x).toNat ∧ iC s 2 (x).toNat ≤ 24 := I.2 2 _ (show (x).toNat < 12 by first | exact oq_9c5fa447 p0.2 | omega)
    refine z_icmp_ge X (t := 28) (show cdA 113 11 = some (.if_icmp .ge 17, 3, 3, 0, 0) from rfl) (by decide) ⟨by first | exact p1.1 | omega, by first | exact p1.2 | omega⟩ (rng_to _) (fun g3 => ?_) (fun g3 => ?_)
    ·
      refine z_const X (show cdA 113 28 = some (.iconst (-1), 1, 0, 0, 0) from rfl) ?_
      exact w_iret X.1 q hRt rfl (ax_d X (show cdA 113 29 = some (.ireturn, 1, 0, 0, 0) from rfl)) (Nat.zero_le _) (Nat.zero_le _) ⟨_, rfl, I, F, (-1), rfl, (by decide), by first | exact ⟨by decide, by decide, Or.inr (And.intro (Or.inr (g3)) (by decide))⟩ | omega⟩
    ·
      refine z_aload_n X (x := A 3) (show cdA 113 14 = some (.aload_n 0, 1, 0, 0, 0) from rfl) (List.Mem.head _) ?_
      refine s_getR X 3 (show cdA 113 15 = some (.getfield 9, 3, 9, 1, 0) from rfl) (by decide) rfl rfl ?_
      refine z_load_n X (x := x) (show cdA 113 18 = some (.iload_n 1, 1, 0, 0, 0) from rfl) (List.Mem.tail _ (List.Mem.head _)) ?_
      refine z_bipush X (show cdA 113 19 = some (.bipush 24, 2, 0, 0, 24) from rfl) ?_
      refine z_mul X (show cdA 113 21 = some (.imul, 1, 0, 0, 0) from rfl) ?_
      refine z_load_n X (x := y) (show cdA 113 22 = some (.iload_n 2, 1, 0, 0, 0) from rfl) (List.Mem.tail _ (List.Mem.tail _ (List.Mem.head _))) ?_
      refine z_add X (show cdA 113 23 = some (.iadd, 1, 0, 0, 0) from rfl) ?_
      refine z_ald X 4 (show cdA 113 24 = some (.iaload, 1, 0, 0, 0) from rfl) (by decide) rfl (by first | exact oq_4071a75f p0.1 g1 | omega) (show ((x * 24) + y) < 288 by first | exact oq_54efb6a2 p0.2 g3 b2.2 | omega) (by decide) ?_
      have b4 : (0 : Int) ≤ iC s 1 (((x * 24) + y)).toNat ∧ iC s 1 (((x * 24) + y)).toNat ≤ 127 := I.2 1 _ (show (((x * 24) + y)).toNat < 288 by first | exact oq_2f719579 p0.2 g3 b2.2 | omega)
      refine z_goto X (t := 29) (show cdA 113 25 = some (.goto 4, 3, 0, 0, 0) from rfl) (by decide) ?_
      exact w_iret X.1 q hRt rfl (ax_d X (show cdA 113 29 = some (.ireturn, 1, 0, 0, 0) from rfl)) (Nat.zero_le _) (Nat.zero_le _) ⟨_, rfl, I, F, (iC s 1 (((x * 24) + y)).toNat), rfl, (rng_to _), by first | exact ⟨oq_ca54ea22 b4.1, b4.2, Or.inl (And.intro (g1) (And.intro (g3) (by decide)))⟩ | omega⟩
set_option maxRecDepth 4000 in
theorem cs_way2 (G : GX l s0 D tys a0 dT) (I : Bd s) {u v : Int} (p0 : rng u) (p1 : rng v) : CT l s0 D A dT 139 (rmN 139) [.ref (A 0), .int (Int32.ofInt u), .int (Int32.ofInt v)] s (fun o t => Bd t ∧ Fm [] [] s t ∧ ((∃ e, o = .inl (some (.int (Int32.ofInt e))) ∧ rng e ∧ (0 ≤ u ∧ u < iI s 9 ∧ ((0 ≤ v ∧ v < iC s 2 u.toNat ∧ e = iC s 1 (u * 24 + v).toNat) ∨ ((v < 0 ∨ iC s 2 u.toNat ≤ v) ∧ e = -1)))) ∨ ∃ x : Nat, o = .inr (exN x) ∧ (x = 1 ∧ (u < 0 ∨ iI s 9 ≤ u)))) := by
  refine ct_ofX G (by decide) (Nat.le_of_ble_eq_true rfl) (fun k X E ET hRt hXt q => ?_)
  show WS k 0 [(0, .ref (A 0)), (1, .int (Int32.ofInt u)), (2, .int (Int32.ofInt v))] [] _ 0 0
  have F : Fm [] [] s s := fm_rf _ _ s
  have aw0_1 : SAM 1 s s := sam_rf
  have aw0_2 : SAM 2 s s := sam_rf
  have b1 : (0 : Int) ≤ iI s 9 ∧ iI s 9 ≤ 12 := I.1 9
  refine z_aload_n X (x := A 0) (show cdA 139 0 = some (.aload_n 0, 1, 0, 0, 0) from rfl) (List.Mem.head _) ?_
  refine z_load_n X (x := u) (show cdA 139 1 = some (.iload_n 1, 1, 0, 0, 0) from rfl) (List.Mem.tail _ (List.Mem.head _)) ?_
  refine z_callV X 0 (rm := rmN 180) (As := [.int (Int32.ofInt u)]) (st := []) (show cdA 139 2 = some (.invokevirtual 140, 3, 180, 0, 0) from rfl) rfl (by decide) rfl (by rw [E.1, E.2.1, E.2.2.1]; exact cs_needStream2 G I (by first | exact ⟨p0.1, p0.2⟩ | omega)) ⟨by rw [E.2.2.2]; exact (show (rmN 180).frames + 1 ≤ (rmN 139).frames by decide), by rw [E.2.2.2]; exact (show 8 + (mNL (miB 180) + 11) + (rmN 180).locals ≤ (rmN 139).locals by decide), by rw [E.2.2.2]; exact (show 0 + 1 ≤ 1 by omega), by rw [E.2.2.2]; exact (show 0 + 6 ≤ 6 by omega)⟩ (Nat.le_of_ble_eq_true rfl) (fun vv s2 hq => ?_) (fun ee s2 hq => ?_)
  rotate_left
  · obtain ⟨Is2, Fs2, (⟨hv, hps2⟩ | ⟨xx, hv, hps2⟩)⟩ := hq
    · cases hv
    · cases hv
      have Gs2 := fm_ts F Fs2 (by decide) (by decide)
      have ws2_9 : iI s2 9 = iI s 9 := fm_i Fs2 (by decide)
      have aws2_1 : SAM 1 s s2 := sam_ts aw0_1 (sam_fm Fs2 (by decide))
      have aws2_2 : SAM 2 s s2 := sam_ts aw0_2 (sam_fm Fs2 (by decide))
      exact x_out X.1 q (fun x hx => (hXt x hx).elim) (show 1 ≤ 1 by omega) (show 6 ≤ 6 by omega) ⟨_, rfl, Is2, Gs2, Or.inr ⟨xx, rfl, by omega⟩⟩
  obtain ⟨Is2, Fs2, (⟨hv, hps2⟩ | ⟨xx, hv, hps2⟩)⟩ := hq
  rotate_left
  · cases hv
  cases hv
  have Gs2 := fm_ts F Fs2 (by decide) (by decide)
  have ws2_9 : iI s2 9 = iI s 9 := fm_i Fs2 (by decide)
  have aws2_1 : SAM 1 s s2 := sam_ts aw0_1 (sam_fm Fs2 (by decide))
  have aws2_2 : SAM 2 s s2 := sam_ts aw0_2 (sam_fm Fs2 (by decide))
  show WS k 5 [(0, .ref (A 0)), (1, .int (Int32.ofInt u)), (2, .int (Int32.ofInt v))] [] (Wd A dT s2) 1 6
  refine z_aload_n X (x := A 0) (show cdA 139 5 = some (.aload_n 0, 1, 0, 0, 0) from rfl) (List.Mem.head _) ?_
  refine s_getR X 0 (show cdA 139 6 = some (.getfield 19, 3, 11, 1, 0) from rfl) (by decide) rfl rfl ?_
  refine z_load_n X (x := u) (show cdA 139 9 = some (.iload_n 1, 1, 0, 0, 0) from rfl) (List.Mem.tail _ (List.Mem.head _)) ?_
  refine z_load_n X (x := v) (show cdA 139 10 = some (.iload_n 2, 1, 0, 0, 0) from rfl) (List.Mem.tail _ (List.Mem.tail _ (List.Mem.head _))) ?_
  refine z_callV X 3 (rm := rmN 113) (As := [.int (Int32.ofInt u), .int (Int32.ofInt v)]) (st := []) (show cdA 139 11 = some (.invokevirtual 144, 3, 113, 0, 0) from rfl) rfl (by decide) rfl (by rw [E.1, E.2.1, E.2.2.1]; exact c9_cellAtF G Is2 (by first | exact ⟨hps2.1, oq_e4d7f3c5 hps2.2 b1.2⟩ | omega) (by first | exact ⟨p1.1, p1.2⟩ | omega)) ⟨by rw [E.2.2.2]; exact (show (rmN 113).frames + 1 ≤ (rmN 139).frames by decide), by rw [E.2.2.2]; exact (show 8 + (mNL (miB 113) + 11) + (rmN 113).locals ≤ (rmN 139).locals by decide), by rw [E.2.2.2]; exact (show 1 + 0 ≤ 1 by omega), by rw [E.2.2.2]; exact (show 6 + 0 ≤ 6 by omega)⟩ (Nat.le_of_ble_eq_true rfl) (fun vv s4 hq => ?_) (fun ee s4 hq => ?_)
  rotate_left
  · obtain ⟨Is4, Fs4, e5, hv, hrs4, hps4⟩ := hq; cases hv
  obtain ⟨Is4, Fs4, e5, hv, hrs4, hps4⟩ := hq
  cases hv
  have Gs4 := fm_ts Gs2 Fs4 (by decide) (by decide)
  have ws4_9 : iI s4 9 = iI s2 9 := fm_i Fs4 (by decide)
  have aws4_1 : SAM 1 s s4 := sam_ts aws2_1 (sam_fm Fs4 (by decide))
  have aws4_2 : SAM 2 s s4 := sam_ts aws2_2 (sam_fm Fs4 (by decide))
  show WS k 14 [(0, .ref (A 0)), (1, .int (Int32.ofInt u)), (2, .int (Int32.ofInt v))] [.int (Int32.ofInt e5)] (Wd A dT s4) 1 6
  exact w_iret X.1 q hRt rfl (ax_d X (show cdA 139 14 = some (.ireturn, 1, 0, 0, 0) from rfl)) (show 1 ≤ 1 by omega) (show 6 ≤ 6 by omega) ⟨_, rfl, Is4, Gs4, Or.inl ⟨e5, rfl, hrs4, ⟨by first | exact hps2.1 | omega, by first | exact hps2.2 | omega, by have z1 := aws2_2 (u).toNat; have z2 := aws2_1 (u * 24 + v).toNat; have z3 := hps4.2.2; omega⟩⟩⟩
set_option maxRecDepth 4000 in
theorem lw_way2 (G : GX l s0 D tys a0 dT) (I : Bd s) {u v : Int} (p0 : rng u) (p1 : rng v) : CTL l s0 D A dT 316 (rmN 316) [.ref (A 0), .int (Int32.ofInt u), .int (Int32.ofInt v), .ref (A 517)] s (fun o t => Bd t ∧ Fm [] [1460] s t ∧ ∃ e, o = .inl (some (.int (Int32.ofInt e))) ∧ rng e ∧ ((e = 0 ∧ 0 ≤ u ∧ u < iI s 9 ∧ ((0 ≤ v ∧ v < iC s 2 u.toNat ∧ iO t = iC s 1 (u * 24 + v).toNat) ∨ ((v < 0 ∨ iC s 2 u.toNat ≤ v) ∧ iO t = -1))) ∨ (e = 1 ∧ (u < 0 ∨ iI s 9 ≤ u)))) := by
  refine ctL_of G (by decide) (Nat.le_of_ble_eq_true rfl) (by decide) (show cdA 316 0 = some (.aload_n 3, 1, 0, 0, 0) from rfl) (fun k X E ET hRt hEx q => ?_)
  show WS k 0 [(0, .ref (A 0)), (1, .int (Int32.ofInt u)), (2, .int (Int32.ofInt v)), (3, .ref (A 517))] [] _ 0 0
  have F : Fm [] [1460] s s := fm_rf _ _ s
  have hA := swA_rf A
  have b1 : (0 : Int) ≤ iI s 9 ∧ iI s 9 ≤ 12 := I.1 9
  refine z_aload_n X (x := A 517) (show cdA 316 0 = some (.aload_n 3, 1, 0, 0, 0) from rfl) (List.Mem.tail _ (List.Mem.tail _ (List.Mem.tail _ (List.Mem.head _)))) ?_
  refine z_const X (show cdA 316 1 = some (.iconst 0, 1, 0, 0, 0) from rfl) ?_
  refine z_aload_n X (x := A 0) (show cdA 316 2 = some (.aload_n 0, 1, 0, 0, 0) from rfl) (List.Mem.head _) ?_
  refine z_load_n X (x := u) (show cdA 316 3 = some (.iload_n 1, 1, 0, 0, 0) from rfl) (List.Mem.tail _ (List.Mem.head _)) ?_
  refine z_load_n X (x := v) (show cdA 316 4 = some (.iload_n 2, 1, 0, 0, 0) from rfl) (List.Mem.tail _ (List.Mem.tail _ (List.Mem.head _))) ?_
  refine z_callV X 0 (rm := rmN 139) (As := [.int (Int32.ofInt u), .int (Int32.ofInt v)]) (st := [.int (Int32.ofInt 0), .ref (A 517)]) (show cdA 316 5 = some (.invokevirtual 18, 3, 139, 0, 0) from rfl) rfl (by decide) rfl (by rw [E.1, E.2.1, E.2.2.1]; exact cs_way2 G I (by omega) (by omega)) ⟨by rw [E.2.2.2]; exact (show (rmN 139).frames + 1 ≤ (rmN 316).frames by decide), by rw [E.2.2.2]; exact (show 8 + (mNL (miB 139) + 11) + (rmN 139).locals ≤ (rmN 316).locals by decide), by rw [E.2.2.2]; exact (show 0 + (rmN 139).cells ≤ (rmN 316).cells by decide), by rw [E.2.2.2]; exact (show 0 + (rmN 139).slots ≤ (rmN 316).slots by decide)⟩ (Nat.le_of_ble_eq_true rfl) (fun vv s2 hq => ?_) (fun ee s2 hq => ?_)
  rotate_left
  · obtain ⟨Is2, Fs2, (⟨e3, hv, hrs2, hps2⟩ | ⟨xx, hv, hps2⟩)⟩ := hq
    · cases hv
    · cases hv
      rcases (show xx = 1 by omega) with gx
      ·
        subst gx
        have Gs2 := fm_ts F Fs2 (by decide) (by decide)
        have ws2_9 : iI s2 9 = iI s 9 := fm_i Fs2 (by decide)
        refine (hEx 5 1).2 13 rfl _ _ _ _ _ (fun q1 => ?_)
        show WS k 13 [(0, .ref (A 0)), (1, .int (Int32.ofInt u)), (2, .int (Int32.ofInt v)), (3, .ref (A 517))] [.ref q1] (Wd A dT s2) 1 6
        refine z_astore X (lv' := [(4, .ref q1), (0, .ref (A 0)), (1, .int (Int32.ofInt u)), (2, .int (Int32.ofInt v)), (3, .ref (A 517))]) (show cdA 316 13 = some (.astore 4, 2, 0, 0, 0) from rfl) (by decide) (fun _ h => h) ?_
        refine z_const X (show cdA 316 15 = some (.iconst 1, 1, 0, 0, 0) from rfl) ?_
        exact w_iret X.1 q hRt rfl (ax_d X (show cdA 316 16 = some (.ireturn, 1, 0, 0, 0) from rfl)) (show 1 ≤ 1 by omega) (show 6 ≤ 6 by omega) ⟨A, _, hA, rfl, Is2, Gs2, 1, rfl, (by decide), by omega⟩
  obtain ⟨Is2, Fs2, (⟨e3, hv, hrs2, hps2⟩ | ⟨xx, hv, hps2⟩)⟩ := hq
  rotate_left
  · cases hv
  cases hv
  have Gs2 := fm_ts F Fs2 (by decide) (by decide)
  have ws2_9 : iI s2 9 = iI s 9 := fm_i Fs2 (by decide)
  show WS k 8 [(0, .ref (A 0)), (1, .int (Int32.ofInt u)), (2, .int (Int32.ofInt v)), (3, .ref (A 517))] [.int (Int32.ofInt e3), .int (Int32.ofInt 0), .ref (A 517)] (Wd A dT s2) 1 6
  refine w_i2l X.1 (ax_d X (show cdA 316 8 = some (.i2l, 1, 0, 0, 0) from rfl)) ?_
  refine z_last X 517 (show cdA 316 9 = some (.lastore, 1, 0, 0, 0) from rfl) (by decide) rfl (by omega) (show 0 < 1 by omega) (by decide) ?_
  obtain ⟨s4, hs4⟩ : ∃ x0, x0 = uD s2 460 (0 : Int).toNat (Int32.ofInt e3).toInt64 := ⟨_, rfl⟩
  rw [← hs4]
  have Is4 : Bd s4 := by rw [hs4]; exact bd_D Is2
  have Fs4 : Fm [] [1460] s s4 := by rw [hs4]; exact fm_D Gs2 (show 460 + 1000 ∈ _ by decide)
  have ws4_9 : iI s4 9 = iI s2 9 := by rw [hs4]; rfl
  have oos4 : iO s4 = e3 := by rw [hs4]; exact iO_u (by omega)
  refine z_goto X (t := 17) (show cdA 316 10 = some (.goto 7, 3, 0, 0, 0) from rfl) (by decide) ?_
  refine z_const X (show cdA 316 17 = some (.iconst 0, 1, 0, 0, 0) from rfl) ?_
  exact w_iret X.1 q hRt rfl (ax_d X (show cdA 316 18 = some (.ireturn, 1, 0, 0, 0) from rfl)) (show 1 ≤ 1 by omega) (show 6 ≤ 6 by omega) ⟨A, _, hA, rfl, Is4, Fs4, 0, rfl, (by decide), by omega⟩
set_option maxRecDepth 4000 in
theorem k_way2 (G : GX l s0 D tys a0 dT) (I : Bd s) {x y : Int} (p0 : rng x) (p1 : rng y) : CT l s0 D A dT 217 (rmN 217) [.ref (A 179), .int (Int32.ofInt x), .int (Int32.ofInt y)] s (fun o t => Bd t ∧ Fm [73] [] s t ∧ ∃ e, o = .inl (some (.int (Int32.ofInt e))) ∧ rng e ∧ ((0 ≤ x ∧ x < iI s 90 ∧ iI t 73 = 0 ∧ ((0 ≤ y ∧ y < iC t 162 x.toNat ∧ e = iC t (166 + x.toNat) y.toNat) ∨ ((y < 0 ∨ iC t 162 x.toNat ≤ y) ∧ e = -1))) ∨ ((x < 0 ∨ iI s 90 ≤ x) ∧ iI t 73 = 1))) := by
  refine ct_of G (by decide) (Nat.le_of_ble_eq_true rfl) (fun k X E hRt hXt q => ?_)
  show WS k 0 [(0, .ref (A 179)), (1, .int (Int32.ofInt x)), (2, .int (Int32.ofInt y))] [] _ 0 0
  have F : Fm [73] [] s s := fm_rf _ _ s
  have b1 : (0 : Int) ≤ iI s 73 ∧ iI s 73 ≤ 3 := I.1 73
  have b2 : (0 : Int) ≤ iI s 90 ∧ iI s 90 ≤ 12 := I.1 90
  refine z_aload_n X (x := A 179) (show cdA 217 0 = some (.aload_n 0, 1, 0, 0, 0) from rfl) (List.Mem.head _) ?_
  refine z_const X (show cdA 217 1 = some (.iconst 0, 1, 0, 0, 0) from rfl) ?_
  refine s_putI X 179 (show cdA 217 2 = some (.putfield 172, 3, 12, 0, 0) from rfl) (by decide) rfl rfl (by decide) rfl rfl rfl ?_
  obtain ⟨s3, hs3⟩ : ∃ x0, x0 = uI s 73 (Int32.ofInt 0) := ⟨_, rfl⟩
  rw [← hs3]
  have Is3 : Bd s3 := by rw [hs3]; exact bd_I I (show (0 : Int) ≤ 0 ∧ 0 ≤ 3 by first | exact ⟨by decide, by decide⟩ | omega) (by decide)
  have Fs3 := fm_I (x := Int32.ofInt 0) F (show 73 ∈ _ by decide)
  rw [← hs3] at Fs3
  have vs3 : iI s3 73 = 0 := by rw [hs3]; exact iI_u (by decide)
  have ws3_90 : iI s3 90 = iI s 90 := by rw [hs3]; rfl
  refine z_aload_n X (x := A 179) (show cdA 217 5 = some (.aload_n 0, 1, 0, 0, 0) from rfl) (List.Mem.head _) ?_
  refine z_load_n X (x := x) (show cdA 217 6 = some (.iload_n 1, 1, 0, 0, 0) from rfl) (List.Mem.tail _ (List.Mem.head _)) ?_
  refine z_const X (show cdA 217 7 = some (.iconst 0, 1, 0, 0, 0) from rfl) ?_
  refine z_aload_n X (x := A 179) (show cdA 217 8 = some (.aload_n 0, 1, 0, 0, 0) from rfl) (List.Mem.head _) ?_
  refine z_getI X 179 (show cdA 217 9 = some (.getfield 233, 3, 12, 22, 0) from rfl) (by decide) rfl rfl ?_
  have b4 : (0 : Int) ≤ iI s3 90 ∧ iI s3 90 ≤ 12 := Is3.1 90
  refine z_const X (show cdA 217 12 = some (.iconst 1, 1, 0, 0, 0) from rfl) ?_
  refine z_sub X (show cdA 217 13 = some (.isub, 1, 0, 0, 0) from rfl) ?_
  refine z_callS X (rm := rmN 188) (As := [.int (Int32.ofInt x), .int (Int32.ofInt 0), .int (Int32.ofInt ((iI s3 90) - 1))]) (st := [.ref (A 179)]) (show cdA 217 14 = some (.invokestatic 209, 3, 188, 1, 0) from rfl) rfl (by rw [E.1, E.2.1, E.2.2.1]; exact k_in2 G Is3 (by first | exact ⟨p0.1, p0.2⟩ | omega) (by first | exact ⟨by decide, by decide⟩ | omega) (by first | exact ⟨oq_c1e961c7 b4.1, oq_d526ebd3 b4.2⟩ | omega)) ⟨by rw [E.2.2.2]; exact (show (rmN 188).frames + 1 ≤ (rmN 217).frames by decide), by rw [E.2.2.2]; exact (show 8 + (mNL (miB 188) + 11) + (rmN 188).locals ≤ (rmN 217).locals by decide), by rw [E.2.2.2]; exact (show 0 + (rmN 188).cells ≤ (rmN 217).cells by decide), by rw [E.2.2.2]; exact (show 0 + (rmN 188).slots ≤ (rmN 217).slots by decide)⟩ (Nat.le_of_ble_eq_true rfl) (fun vv s5 hq => ?_) (fun ee s5 hq => ?_)
  rotate_left
  · obtain ⟨rfl, e6, hv, hrs5, hps5⟩ := hq; cases hv
  obtain ⟨rfl, e6, hv, hrs5, hps5⟩ := hq
  cases hv
  show WS k 17 [(0, .ref (A 179)), (1, .int (Int32.ofInt x)), (2, .int (Int32.ofInt y))] [.int (Int32.ofInt e6), .ref (A 179)] (Wd A dT s3) 0 0
  refine z_if_ne X (t := 24) (show cdA 217 17 = some (.ifCond .ne 7, 3, 1, 0, 0) from rfl) (by decide) hrs5 (fun g7 => ?_) (fun g7 => ?_)
  ·
    refine z_const X (show cdA 217 24 = some (.iconst 0, 1, 0, 0, 0) from rfl) ?_
    refine z_const X (show cdA 217 25 = some (.iconst 1, 1, 0, 0, 0) from rfl) ?_
    refine z_callV X 179 (rm := rmN 187) (As := [.int (Int32.ofInt 0), .int (Int32.ofInt 1)]) (st := []) (show cdA 217 26 = some (.invokevirtual 229, 3, 187, 0, 0) from rfl) rfl (by decide) rfl (by rw [E.1, E.2.1, E.2.2.1]; exact k_bad2 G Is3 (by first | exact Or.inl (by decide) | omega) (by first | exact ⟨by decide, by decide⟩ | omega)) ⟨by rw [E.2.2.2]; exact (show (rmN 187).frames + 1 ≤ (rmN 217).frames by decide), by rw [E.2.2.2]; exact (show 8 + (mNL (miB 187) + 11) + (rmN 187).locals ≤ (rmN 217).locals by decide), by rw [E.2.2.2]; exact (show 0 + (rmN 187).cells ≤ (rmN 217).cells by decide), by rw [E.2.2.2]; exact (show 0 + (rmN 187).slots ≤ (rmN 217).slots by decide)⟩ (Nat.le_of_ble_eq_true rfl) (fun vv s8 hq => ?_) (fun ee s8 hq => ?_)
    rotate_left
    · obtain ⟨Is8, Fs8, e9, hv, hrs8, hps8⟩ := hq; cases hv
    obtain ⟨Is8, Fs8, e9, hv, hrs8, hps8⟩ := hq
    cases hv
    have Gs8 := fm_ts Fs3 Fs8 (by decide) (by decide)
    have b10 : (0 : Int) ≤ iI s8 73 ∧ iI s8 73 ≤ 3 := Is8.1 73
    have ws8_90 : iI s8 90 = iI s3 90 := fm_i Fs8 (by decide)
    show WS k 29 [(0, .ref (A 179)), (1, .int (Int32.ofInt x)), (2, .int (Int32.ofInt y))] [.int (Int32.ofInt e9)] (Wd A dT s8) 0 0
    refine z_if_eq X (t := 34) (show cdA 217 29 = some (.ifCond .eq 5, 3, 0, 0, 0) from rfl) (by decide) hrs8 (fun g11 => ?_) (fun g11 => ?_)
    ·
      refine z_load_n X (x := y) (show cdA 217 34 = some (.iload_n 2, 1, 0, 0, 0) from rfl) (List.Mem.tail _ (List.Mem.tail _ (List.Mem.head _))) ?_
      refine z_const X (show cdA 217 35 = some (.iconst 0, 1, 0, 0, 0) from rfl) ?_
      refine z_aload_n X (x := A 179) (show cdA 217 36 = some (.aload_n 0, 1, 0, 0, 0) from rfl) (List.Mem.head _) ?_
      refine s_getR X 179 (show cdA 217 37 = some (.getfield 35, 3, 12, 23, 0) from rfl) (by decide) rfl rfl ?_
      refine z_load_n X (x := x) (show cdA 217 40 = some (.iload_n 1, 1, 0, 0, 0) from rfl) (List.Mem.tail _ (List.Mem.head _)) ?_
      refine z_ald X 185 (show cdA 217 41 = some (.iaload, 1, 0, 0, 0) from rfl) (by decide) rfl (by first | exact oq_5dfe5e68 g7 hps5 | omega) (show x < 12 by first | exact oq_93de823d g7 hps5 b4.2 | omega) (by decide) ?_
      have b12 : (0 : Int) ≤ iC s8 162 (x).toNat ∧ iC s8 162 (x).toNat ≤ 24 := Is8.2 162 _ (show (x).toNat < 12 by first | exact oq_cdfafa20 g7 hps5 b4.2 | omega)
      refine z_const X (show cdA 217 42 = some (.iconst 1, 1, 0, 0, 0) from rfl) ?_
      refine z_sub X (show cdA 217 43 = some (.isub, 1, 0, 0, 0) from rfl) ?_
      refine z_callS X (rm := rmN 188) (As := [.int (Int32.ofInt y), .int (Int32.ofInt 0), .int (Int32.ofInt ((iC s8 162 (x).toNat) - 1))]) (st := []) (show cdA 217 44 = some (.invokestatic 209, 3, 188, 1, 0) from rfl) rfl (by rw [E.1, E.2.1, E.2.2.1]; exact k_in2 G Is8 (by first | exact ⟨p1.1, p1.2⟩ | omega) (by first | exact ⟨by decide, by decide⟩ | omega) (by first | exact ⟨oq_c1e961c7 b12.1, oq_0332e1ab b12.2⟩ | omega)) ⟨by rw [E.2.2.2]; exact (show (rmN 188).frames + 1 ≤ (rmN 217).frames by decide), by rw [E.2.2.2]; exact (show 8 + (mNL (miB 188) + 11) + (rmN 188).locals ≤ (rmN 217).locals by decide), by rw [E.2.2.2]; exact (show 0 + (rmN 188).cells ≤ (rmN 217).cells by decide), by rw [E.2.2.2]; exact (show 0 + (rmN 188).slots ≤ (rmN 217).slots by decide)⟩ (Nat.le_of_ble_eq_true rfl) (fun vv s13 hq => ?_) (fun ee s13 hq => ?_)
      rotate_left
      · obtain ⟨rfl, e14, hv, hrs13, hps13⟩ := hq; cases hv
      obtain ⟨rfl, e14, hv, hrs13, hps13⟩ := hq
      cases hv
      show WS k 47 [(0, .ref (A 179)), (1, .int (Int32.ofInt x)), (2, .int (Int32.ofInt y))] [.int (Int32.ofInt e14)] (Wd A dT s8) 0 0
      refine z_if_eq X (t := 61) (show cdA 217 47 = some (.ifCond .eq 14, 3, 0, 0, 0) from rfl) (by decide) hrs13 (fun g15 => ?_) (fun g15 => ?_)
      ·
        refine z_const X (show cdA 217 61 = some (.iconst (-1), 1, 0, 0, 0) from rfl) ?_
        exact w_iret X.1 q hRt rfl (ax_d X (show cdA 217 62 = some (.ireturn, 1, 0, 0, 0) from rfl)) (Nat.zero_le _) (Nat.zero_le _) ⟨_, rfl, Is8, Gs8, (-1), rfl, (by decide), by first | exact oq_9a4ee189 g15 hps13 b10.1 hps8 g7 hps5 ws3_90 vs3 | omega⟩
      ·
        refine z_aload_n X (x := A 179) (show cdA 217 50 = some (.aload_n 0, 1, 0, 0, 0) from rfl) (List.Mem.head _) ?_
        refine s_getR X 179 (show cdA 217 51 = some (.getfield 49, 3, 12, 28, 0) from rfl) (by decide) rfl rfl ?_
        refine z_load_n X (x := x) (show cdA 217 54 = some (.iload_n 1, 1, 0, 0, 0) from rfl) (List.Mem.tail _ (List.Mem.head _)) ?_
        refine z_aald X rw_189 (show cdA 217 55 = some (.aaload, 1, 0, 0, 0) from rfl) (by first | exact oq_5dfe5e68 g7 hps5 | omega) (show x < 12 by first | exact oq_93de823d g7 hps5 b4.2 | omega) (by decide) ?_
        refine z_load_n X (x := y) (show cdA 217 56 = some (.iload_n 2, 1, 0, 0, 0) from rfl) (List.Mem.tail _ (List.Mem.tail _ (List.Mem.head _))) ?_
        refine z_ald2 X rw_189 (show cdA 217 57 = some (.iaload, 1, 0, 0, 0) from rfl) (show (x : Int).toNat < 12 by first | exact oq_cdfafa20 g7 hps5 b4.2 | omega) (by first | exact oq_5dfe5e68 g15 hps13 | omega) (show y < 24 by first | exact oq_6c39bb95 g15 hps13 b12.2 | omega) (by decide) ?_
        have b16 : (0 : Int) ≤ (iC s8 (166 + (x : Int).toNat) (y : Int).toNat) ∧ (iC s8 (166 + (x : Int).toNat) (y : Int).toNat) ≤ 127 := rw_bd rw_189 Is8 (show (x : Int).toNat < 12 by first | exact oq_cdfafa20 g7 hps5 b4.2 | omega) (show (y : Int).toNat < 24 by first | exact oq_76eef144 g15 hps13 b12.2 | omega)
        refine z_goto X (t := 62) (show cdA 217 58 = some (.goto 4, 3, 0, 0, 0) from rfl) (by decide) ?_
        exact w_iret X.1 q hRt rfl (ax_d X (show cdA 217 62 = some (.ireturn, 1, 0, 0, 0) from rfl)) (Nat.zero_le _) (Nat.zero_le _) ⟨_, rfl, Is8, Gs8, (iC s8 (166 + (x : Int).toNat) (y : Int).toNat), rfl, (rng_to _), by first | exact oq_05d5d766 g15 hps13 b10.1 hps8 g7 hps5 ws3_90 vs3 | omega⟩
    ·
      refine z_const X (show cdA 217 32 = some (.iconst 0, 1, 0, 0, 0) from rfl) ?_
      exact w_iret X.1 q hRt rfl (ax_d X (show cdA 217 33 = some (.ireturn, 1, 0, 0, 0) from rfl)) (Nat.zero_le _) (Nat.zero_le _) ⟨_, rfl, Is8, Gs8, 0, rfl, (by decide), by first | exact oq_e1acbfd9 g11 hps8 vs3 | omega⟩
  ·
    refine z_const X (show cdA 217 20 = some (.iconst 1, 1, 0, 0, 0) from rfl) ?_
    refine z_goto X (t := 25) (show cdA 217 21 = some (.goto 4, 3, 0, 0, 0) from rfl) (by decide) ?_
    refine z_const X (show cdA 217 25 = some (.iconst 1, 1, 0, 0, 0) from rfl) ?_
    refine z_callV X 179 (rm := rmN 187) (As := [.int (Int32.ofInt 1), .int (Int32.ofInt 1)]) (st := []) (show cdA 217 26 = some (.invokevirtual 229, 3, 187, 0, 0) from rfl) rfl (by decide) rfl (by rw [E.1, E.2.1, E.2.2.1]; exact k_bad2 G Is3 (by first | exact Or.inr (by decide) | omega) (by first | exact ⟨by decide, by decide⟩ | omega)) ⟨by rw [E.2.2.2]; exact (show (rmN 187).frames + 1 ≤ (rmN 217).frames by decide), by rw [E.2.2.2]; exact (show 8 + (mNL (miB 187) + 11) + (rmN 187).locals ≤ (rmN 217).locals by decide), by rw [E.2.2.2]; exact (show 0 + (rmN 187).cells ≤ (rmN 217).cells by decide), by rw [E.2.2.2]; exact (show 0 + (rmN 187).slots ≤ (rmN 217).slots by decide)⟩ (Nat.le_of_ble_eq_true rfl) (fun vv s17 hq => ?_) (fun ee s17 hq => ?_)
    rotate_left
    · obtain ⟨Is17, Fs17, e18, hv, hrs17, hps17⟩ := hq; cases hv
    obtain ⟨Is17, Fs17, e18, hv, hrs17, hps17⟩ := hq
    cases hv
    have Gs17 := fm_ts Fs3 Fs17 (by decide) (by decide)
    have b19 : (0 : Int) ≤ iI s17 73 ∧ iI s17 73 ≤ 3 := Is17.1 73
    have ws17_90 : iI s17 90 = iI s3 90 := fm_i Fs17 (by decide)
    show WS k 29 [(0, .ref (A 179)), (1, .int (Int32.ofInt x)), (2, .int (Int32.ofInt y))] [.int (Int32.ofInt e18)] (Wd A dT s17) 0 0
    refine z_if_eq X (t := 34) (show cdA 217 29 = some (.ifCond .eq 5, 3, 0, 0, 0) from rfl) (by decide) hrs17 (fun g20 => ?_) (fun g20 => ?_)
    ·
      refine z_load_n X (x := y) (show cdA 217 34 = some (.iload_n 2, 1, 0, 0, 0) from rfl) (List.Mem.tail _ (List.Mem.tail _ (List.Mem.head _))) ?_
      refine z_const X (show cdA 217 35 = some (.iconst 0, 1, 0, 0, 0) from rfl) ?_
      refine z_aload_n X (x := A 179) (show cdA 217 36 = some (.aload_n 0, 1, 0, 0, 0) from rfl) (List.Mem.head _) ?_
      refine s_getR X 179 (show cdA 217 37 = some (.getfield 35, 3, 12, 23, 0) from rfl) (by decide) rfl rfl ?_
      refine z_load_n X (x := x) (show cdA 217 40 = some (.iload_n 1, 1, 0, 0, 0) from rfl) (List.Mem.tail _ (List.Mem.head _)) ?_
      refine z_ald X 185 (show cdA 217 41 = some (.iaload, 1, 0, 0, 0) from rfl) (by decide) rfl (by first | exact oq_674898f9 g20 hps17 vs3 | omega) (show x < 12 by first | exact oq_391ffabd g20 hps17 vs3 | omega) (by decide) ?_
      have b21 : (0 : Int) ≤ iC s17 162 (x).toNat ∧ iC s17 162 (x).toNat ≤ 24 := Is17.2 162 _ (show (x).toNat < 12 by first | exact oq_29b04476 g20 hps17 vs3 | omega)
      refine z_const X (show cdA 217 42 = some (.iconst 1, 1, 0, 0, 0) from rfl) ?_
      refine z_sub X (show cdA 217 43 = some (.isub, 1, 0, 0, 0) from rfl) ?_
      refine z_callS X (rm := rmN 188) (As := [.int (Int32.ofInt y), .int (Int32.ofInt 0), .int (Int32.ofInt ((iC s17 162 (x).toNat) - 1))]) (st := []) (show cdA 217 44 = some (.invokestatic 209, 3, 188, 1, 0) from rfl) rfl (by rw [E.1, E.2.1, E.2.2.1]; exact k_in2 G Is17 (by first | exact ⟨p1.1, p1.2⟩ | omega) (by first | exact ⟨by decide, by decide⟩ | omega) (by first | exact ⟨oq_c1e961c7 b21.1, oq_0332e1ab b21.2⟩ | omega)) ⟨by rw [E.2.2.2]; exact (show (rmN 188).frames + 1 ≤ (rmN 217).frames by decide), by rw [E.2.2.2]; exact (show 8 + (mNL (miB 188) + 11) + (rmN 188).locals ≤ (rmN 217).locals by decide), by rw [E.2.2.2]; exact (show 0 + (rmN 188).cells ≤ (rmN 217).cells by decide), by rw [E.2.2.2]; exact (show 0 + (rmN 188).slots ≤ (rmN 217).slots by decide)⟩ (Nat.le_of_ble_eq_true rfl) (fun vv s22 hq => ?_) (fun ee s22 hq => ?_)
      rotate_left
      · obtain ⟨rfl, e23, hv, hrs22, hps22⟩ := hq; cases hv
      obtain ⟨rfl, e23, hv, hrs22, hps22⟩ := hq
      cases hv
      show WS k 47 [(0, .ref (A 179)), (1, .int (Int32.ofInt x)), (2, .int (Int32.ofInt y))] [.int (Int32.ofInt e23)] (Wd A dT s17) 0 0
      refine z_if_eq X (t := 61) (show cdA 217 47 = some (.ifCond .eq 14, 3, 0, 0, 0) from rfl) (by decide) hrs22 (fun g24 => ?_) (fun g24 => ?_)
      ·
        refine z_const X (show cdA 217 61 = some (.iconst (-1), 1, 0, 0, 0) from rfl) ?_
        exact w_iret X.1 q hRt rfl (ax_d X (show cdA 217 62 = some (.ireturn, 1, 0, 0, 0) from rfl)) (Nat.zero_le _) (Nat.zero_le _) ⟨_, rfl, Is17, Gs17, (-1), rfl, (by decide), by first | exact oq_823922ae g20 hps17 vs3 | omega⟩
      ·
        refine z_aload_n X (x := A 179) (show cdA 217 50 = some (.aload_n 0, 1, 0, 0, 0) from rfl) (List.Mem.head _) ?_
        refine s_getR X 179 (show cdA 217 51 = some (.getfield 49, 3, 12, 28, 0) from rfl) (by decide) rfl rfl ?_
        refine z_load_n X (x := x) (show cdA 217 54 = some (.iload_n 1, 1, 0, 0, 0) from rfl) (List.Mem.tail _ (List.Mem.head _)) ?_
        refine z_aald X rw_189 (show cdA 217 55 = some (.aaload, 1, 0, 0, 0) from rfl) (by first | exact oq_674898f9 g20 hps17 vs3 | omega) (show x < 12 by first | exact oq_391ffabd g20 hps17 vs3 | omega) (by decide) ?_
        refine z_load_n X (x := y) (show cdA 217 56 = some (.iload_n 2, 1, 0, 0, 0) from rfl) (List.Mem.tail _ (List.Mem.tail _ (List.Mem.head _))) ?_
        refine z_ald2 X rw_189 (show cdA 217 57 = some (.iaload, 1, 0, 0, 0) from rfl) (show (x : Int).toNat < 12 by first | exact oq_29b04476 g20 hps17 vs3 | omega) (by first | exact oq_5dfe5e68 g24 hps22 | omega) (show y < 24 by first | exact oq_6c39bb95 g24 hps22 b21.2 | omega) (by decide) ?_
        have b25 : (0 : Int) ≤ (iC s17 (166 + (x : Int).toNat) (y : Int).toNat) ∧ (iC s17 (166 + (x : Int).toNat) (y : Int).toNat) ≤ 127 := rw_bd rw_189 Is17 (show (x : Int).toNat < 12 by first | exact oq_29b04476 g20 hps17 vs3 | omega) (show (y : Int).toNat < 24 by first | exact oq_76eef144 g24 hps22 b21.2 | omega)
        refine z_goto X (t := 62) (show cdA 217 58 = some (.goto 4, 3, 0, 0, 0) from rfl) (by decide) ?_
        exact w_iret X.1 q hRt rfl (ax_d X (show cdA 217 62 = some (.ireturn, 1, 0, 0, 0) from rfl)) (Nat.zero_le _) (Nat.zero_le _) ⟨_, rfl, Is17, Gs17, (iC s17 (166 + (x : Int).toNat) (y : Int).toNat), rfl, (rng_to _), by first | exact oq_b89ccd92 g20 hps17 vs3 | omega⟩
    ·
      refine z_const X (show cdA 217 32 = some (.iconst 0, 1, 0, 0, 0) from rfl) ?_
      exact w_iret X.1 q hRt rfl (ax_d X (show cdA 217 33 = some (.ireturn, 1, 0, 0, 0) from rfl)) (Nat.zero_le _) (Nat.zero_le _) ⟨_, rfl, Is17, Gs17, 0, rfl, (by decide), by first | exact oq_0fb12e2b g20 hps17 g7 hps5 ws3_90 vs3 | omega⟩
set_option maxRecDepth 4000 in
theorem k_stream3 (G : GX l s0 D tys a0 dT) {B : Nat → Int} (I : Bd s) (jRLx : RLx s) (jFDA : FDA B s) {x : Int} (p0 : rng x) : CT l s0 D A dT 200 (rmN 200) [.ref (A 179), .int (Int32.ofInt x)] s (fun o t => Bd t ∧ Fm [73, 74, 76, 90, 91, 77, 75, 78, 79, 80, 81] [165, 162, 166, 167, 168, 169, 170, 171, 172, 173, 174, 175, 176, 177, 178, 179, 180, 181, 182, 183, 184, 185, 186, 187, 188, 189] s t ∧ RLx t ∧ FDA B t ∧ ∃ e, o = .inl (some (.int (Int32.ofInt e))) ∧ rng e ∧ ((((0 ≤ x ∧ x ≤ iI s 74 ∧ x ≤ 100 ∧ iI t 74 = 0 ∧ iI t 73 = 0) ∧ STRx B x (iI s 90) (iI t 90)) ∨ ((x < 0 ∨ iI s 74 < x ∨ 100 < x) ∧ iI t 74 = iI s 74 ∧ iI t 73 = 1 ∧ iI t 90 = iI s 90)) ∧ WNM B x s t)) := by
  refine ct_of G (by decide) (Nat.le_of_ble_eq_true rfl) (fun k X E hRt hXt q => ?_)
  show WS k 0 [(0, .ref (A 179)), (1, .int (Int32.ofInt x))] [] _ 0 0
  have F : Fm [73, 74, 76, 90, 91, 77, 75, 78, 79, 80, 81] [165, 162, 166, 167, 168, 169, 170, 171, 172, 173, 174, 175, 176, 177, 178, 179, 180, 181, 182, 183, 184, 185, 186, 187, 188, 189] s s := fm_rf _ _ s
  have aw0_SWM : SWM s s := swm_rf
  have b1 : (0 : Int) ≤ iI s 73 ∧ iI s 73 ≤ 3 := I.1 73
  have b2 : (0 : Int) ≤ iI s 74 ∧ iI s 74 ≤ 200 := I.1 74
  have b3 : (0 : Int) ≤ iI s 77 ∧ iI s 77 ≤ 400 := I.1 77
  have b4 : (0 : Int) ≤ iI s 75 ∧ iI s 75 ≤ 200 := I.1 75
  have b5 : (0 : Int) ≤ iI s 79 ∧ iI s 79 ≤ 9 := I.1 79
  have b6 : (0 : Int) ≤ iI s 78 ∧ iI s 78 ≤ 8 := I.1 78
  have b7 : (0 : Int) ≤ iI s 90 ∧ iI s 90 ≤ 12 := I.1 90
  have b8 : (0 : Int) ≤ iI s 91 ∧ iI s 91 ≤ 24 := I.1 91
  have b9 : (0 : Int) ≤ iI s 81 ∧ iI s 81 ≤ 1 := I.1 81
  have L94 : ∀ (n : Nat) (t : PS) (xv : Int), Bd t → Fm [73, 74, 76, 90, 91, 77, 75, 78, 79, 80, 81] [165, 162, 166, 167, 168, 169, 170, 171, 172, 173, 174, 175, 176, 177, 178, 179, 180, 181, 182, 183, 184, 185, 186, 187, 188, 189] s t → RLx t → FDA B t → ((TDF t ∧ WMQ B x t) ∧ SWM s t) → ((0 ≤ x ∧ x ≤ iI s 74 ∧ x ≤ 100) ∧ iI t 74 = 0 ∧ iI t 75 = x ∧ iI t 77 ≤ 203 ∧ (iI t 79 = 0 → iI t 77 ≤ iI t 75 + 1) ∧ 1 ≤ iI t 91 ∧ iI t 90 = iI s 90 ∧ iI s 90 ≤ 11 ∧ iI t 81 = 0 ∧ iI t 73 = 0) → (400 - iI t 77 + (9 - iI t 79) : Int).toNat < n → (∀ (t' : PS), Bd t' → Fm [73, 74, 76, 90, 91, 77, 75, 78, 79, 80, 81] [165, 162, 166, 167, 168, 169, 170, 171, 172, 173, 174, 175, 176, 177, 178, 179, 180, 181, 182, 183, 184, 185, 186, 187, 188, 189] s t' → RLx t' → FDA B t' → ((TDF t' ∧ WMQ B x t') ∧ SWM s t') → ((0 ≤ x ∧ x ≤ iI s 74 ∧ x ≤ 100) ∧ iI t' 74 = 0 ∧ iI t' 75 = x ∧ iI t' 77 ≤ 203 ∧ (iI t' 79 = 0 → iI t' 77 ≤ iI t' 75 + 1) ∧ 1 ≤ iI t' 91 ∧ iI t' 90 = iI s 90 ∧ iI s 90 ≤ 11 ∧ iI t' 81 = 0 ∧ iI t' 73 = 0 ∧ (iI t' 79 ≠ 0 ∨ x ≤ iI t' 77)) → WS k 123 [(0, .ref (A 179)), (1, .int (Int32.ofInt xv))] [] (Wd A dT t') 0 0) → WS k 94 [(0, .ref (A 179)), (1, .int (Int32.ofInt xv))] [] (Wd A dT t) 0 0 := by
    intro n
    induction n with
    | zero =>
      intro t xv I F jjRLx jjFDA hq hi hm kx
      exact absurd hm (Nat.not_lt_zero _)
    | succ n ih =>
      intro t xv I F jjRLx jjFDA hq hi hm kx
      have b1001 : (0 : Int) ≤ iI t 73 ∧ iI t 73 ≤ 3 := I.1 73
      have b1002 : (0 : Int) ≤ iI t 74 ∧ iI t 74 ≤ 200 := I.1 74
      have b1003 : (0 : Int) ≤ iI t 77 ∧ iI t 77 ≤ 400 := I.1 77
      have b1004 : (0 : Int) ≤ iI t 75 ∧ iI t 75 ≤ 200 := I.1 75
      have b1005 : (0 : Int) ≤ iI t 79 ∧ iI t 79 ≤ 9 := I.1 79
      have b1006 : (0 : Int) ≤ iI t 78 ∧ iI t 78 ≤ 8 := I.1 78
      have b1007 : (0 : Int) ≤ iI t 90 ∧ iI t 90 ≤ 12 := I.1 90
      have b1008 : (0 : Int) ≤ iI t 91 ∧ iI t 91 ≤ 24 := I.1 91
      have b1009 : (0 : Int) ≤ iI t 81 ∧ iI t 81 ≤ 1 := I.1 81
      obtain ⟨hq, hw⟩ := hq
      refine z_aload_n X (x := A 179) (show cdA 200 94 = some (.aload_n 0, 1, 0, 0, 0) from rfl) (List.Mem.head _) ?_
      refine z_getI X 179 (show cdA 200 95 = some (.getfield 191, 3, 12, 6, 0) from rfl) (by decide) rfl rfl ?_
      have b1010 : (0 : Int) ≤ iI t 79 ∧ iI t 79 ≤ 9 := I.1 79
      refine z_if_ne X (t := 123) (show cdA 200 98 = some (.ifCond .ne 25, 3, 1, 0, 0) from rfl) (by decide) (rng_to _) (fun g1011 => ?_) (fun g1011 => ?_)
      ·
        refine WS_lv (lv := [(0, .ref (A 179)), (1, .int (Int32.ofInt xv))]) (List.forall_mem_cons.mpr ⟨(List.Mem.head _), (List.forall_mem_cons.mpr ⟨(List.Mem.tail _ (List.Mem.head _)), (fun q h => absurd h List.not_mem_nil)⟩)⟩) ?_
        exact kx _  I F jjRLx jjFDA ⟨hq, hw⟩ (by first | exact ⟨And.intro (hi.1.1) (And.intro (hi.1.2.1) (hi.1.2.2)), hi.2.1, hi.2.2.1, hi.2.2.2.1, hi.2.2.2.2.1, hi.2.2.2.2.2.1, hi.2.2.2.2.2.2.1, hi.2.2.2.2.2.2.2.1, hi.2.2.2.2.2.2.2.2.1, hi.2.2.2.2.2.2.2.2.2, Or.inl (g1011)⟩ | omega)
      ·
        refine z_aload_n X (x := A 179) (show cdA 200 101 = some (.aload_n 0, 1, 0, 0, 0) from rfl) (List.Mem.head _) ?_
        refine z_getI X 179 (show cdA 200 102 = some (.getfield 184, 3, 12, 4, 0) from rfl) (by decide) rfl rfl ?_
        have b1012 : (0 : Int) ≤ iI t 77 ∧ iI t 77 ≤ 400 := I.1 77
        refine z_aload_n X (x := A 179) (show cdA 200 105 = some (.aload_n 0, 1, 0, 0, 0) from rfl) (List.Mem.head _) ?_
        refine z_getI X 179 (show cdA 200 106 = some (.getfield 178, 3, 12, 2, 0) from rfl) (by decide) rfl rfl ?_
        have b1013 : (0 : Int) ≤ iI t 75 ∧ iI t 75 ≤ 200 := I.1 75
        refine z_icmp_ge X (t := 123) (show cdA 200 109 = some (.if_icmp .ge 14, 3, 3, 0, 0) from rfl) (by decide) (rng_to _) (rng_to _) (fun g1014 => ?_) (fun g1014 => ?_)
        ·
          refine WS_lv (lv := [(0, .ref (A 179)), (1, .int (Int32.ofInt xv))]) (List.forall_mem_cons.mpr ⟨(List.Mem.head _), (List.forall_mem_cons.mpr ⟨(List.Mem.tail _ (List.Mem.head _)), (fun q h => absurd h List.not_mem_nil)⟩)⟩) ?_
          exact kx _  I F jjRLx jjFDA ⟨hq, hw⟩ (by first | exact ⟨And.intro (hi.1.1) (And.intro (hi.1.2.1) (hi.1.2.2)), hi.2.1, hi.2.2.1, hi.2.2.2.1, hi.2.2.2.2.1, hi.2.2.2.2.2.1, hi.2.2.2.2.2.2.1, hi.2.2.2.2.2.2.2.1, hi.2.2.2.2.2.2.2.2.1, hi.2.2.2.2.2.2.2.2.2, Or.inr (oq_acf76229 g1014 hi.2.2.1)⟩ | omega)
        ·
          refine z_aload_n X (x := A 179) (show cdA 200 112 = some (.aload_n 0, 1, 0, 0, 0) from rfl) (List.Mem.head _) ?_
          have JTD_t : TD t := hq.1 (by omega)
          have JFt : FDB B x t := ⟨fda_n jjFDA (by omega) (by omega), by omega, by omega⟩
          obtain ⟨a1, w1, w2, w3⟩ := wm_in hq.2 (by omega)
          refine z_callV X 179 (rm := rmN 199) (As := []) (st := []) (show cdA 200 113 = some (.invokevirtual 240, 3, 199, 0, 0) from rfl) rfl (by decide) rfl (by rw [E.1, E.2.1, E.2.2.1]; exact k_move2 G w2 w3 I JTD_t JFt (by first | exact oq_c9c52c8f hi.2.2.2.1 | omega) (by omega) (by first | exact g1011 | omega)) ⟨by rw [E.2.2.2]; exact (show (rmN 199).frames + 1 ≤ (rmN 200).frames by decide), by rw [E.2.2.2]; exact (show 8 + (mNL (miB 199) + 11) + (rmN 199).locals ≤ (rmN 200).locals by decide), by rw [E.2.2.2]; exact (show 0 + (rmN 199).cells ≤ (rmN 200).cells by decide), by rw [E.2.2.2]; exact (show 0 + (rmN 199).slots ≤ (rmN 200).slots by decide)⟩ (Nat.le_of_ble_eq_true rfl) (fun vv s1015 hq => ?_) (fun ee s1015 hq => ?_)
          rotate_left
          · obtain ⟨Is1015, Fs1015, JTD_s1015, JFDB_s1015, hv, hps1015⟩ := hq; cases hv
          obtain ⟨Is1015, Fs1015, JTD_s1015, JFDB_s1015, hv, hps1015⟩ := hq
          cases hv
          have Gs1015 := fm_ts F Fs1015 (by decide) (by decide)
          have JRLx_s1015 : RLx s1015 := RLx_fm Fs1015 (by decide) jjRLx
          have JFDA_s1015 : FDA B s1015 := FDA_fm Fs1015 (by decide) jjFDA
          have JFDB_s1015 : FDB B x s1015 := FDB_fm Fs1015 (by decide) JFt
          have ws1015_73 : iI s1015 73 = iI t 73 := fm_i Fs1015 (by decide)
          have ws1015_74 : iI s1015 74 = iI t 74 := fm_i Fs1015 (by decide)
          have b1017 : (0 : Int) ≤ iI s1015 77 ∧ iI s1015 77 ≤ 400 := Is1015.1 77
          have ws1015_75 : iI s1015 75 = iI t 75 := fm_i Fs1015 (by decide)
          have b1018 : (0 : Int) ≤ iI s1015 79 ∧ iI s1015 79 ≤ 9 := Is1015.1 79
          have ws1015_78 : iI s1015 78 = iI t 78 := fm_i Fs1015 (by decide)
          have ws1015_90 : iI s1015 90 = iI t 90 := fm_i Fs1015 (by decide)
          have b1019 : (0 : Int) ≤ iI s1015 91 ∧ iI s1015 91 ≤ 24 := Is1015.1 91
          have ws1015_81 : iI s1015 81 = iI t 81 := fm_i Fs1015 (by decide)
          have aws1015_SWM : SWM s s1015 := swm_ts hw (swm_fm Fs1015 (by decide))
          show WS k 116 [(0, .ref (A 179)), (1, .int (Int32.ofInt xv))] [] (Wd A dT s1015) 0 0
          refine z_aload_n X (x := A 179) (show cdA 200 116 = some (.aload_n 0, 1, 0, 0, 0) from rfl) (List.Mem.head _) ?_
          have JFs1015 : FDB B x s1015 := ⟨fda_n JFDA_s1015 (by omega) (by omega), by omega, by omega⟩
          refine z_callV X 179 (rm := rmN 193) (As := []) (st := []) (show cdA 200 117 = some (.invokevirtual 197, 3, 193, 0, 0) from rfl) rfl (by decide) rfl (by rw [E.1, E.2.1, E.2.2.1]; exact k_blanks2 G Is1015 JFs1015 (by omega)) ⟨by rw [E.2.2.2]; exact (show (rmN 193).frames + 1 ≤ (rmN 200).frames by decide), by rw [E.2.2.2]; exact (show 8 + (mNL (miB 193) + 11) + (rmN 193).locals ≤ (rmN 200).locals by decide), by rw [E.2.2.2]; exact (show 0 + (rmN 193).cells ≤ (rmN 200).cells by decide), by rw [E.2.2.2]; exact (show 0 + (rmN 193).slots ≤ (rmN 200).slots by decide)⟩ (Nat.le_of_ble_eq_true rfl) (fun vv s1020 hq => ?_) (fun ee s1020 hq => ?_)
          rotate_left
          · obtain ⟨Is1020, Fs1020, JFDB_s1020, hv, hps1020⟩ := hq; cases hv
          obtain ⟨Is1020, Fs1020, JFDB_s1020, hv, hps1020⟩ := hq
          cases hv
          have Gs1020 := fm_ts Gs1015 Fs1020 (by decide) (by decide)
          have JRLx_s1020 : RLx s1020 := RLx_fm Fs1020 (by decide) JRLx_s1015
          have JFDA_s1020 : FDA B s1020 := FDA_fm Fs1020 (by decide) JFDA_s1015
          have JTD_s1020 : TD s1020 := TD_fm Fs1020 (by decide) JTD_s1015
          have JFDB_s1020 : FDB B x s1020 := FDB_fm Fs1020 (by decide) JFs1015
          have ws1020_73 : iI s1020 73 = iI s1015 73 := fm_i Fs1020 (by decide)
          have ws1020_74 : iI s1020 74 = iI s1015 74 := fm_i Fs1020 (by decide)
          have b1022 : (0 : Int) ≤ iI s1020 77 ∧ iI s1020 77 ≤ 400 := Is1020.1 77
          have ws1020_75 : iI s1020 75 = iI s1015 75 := fm_i Fs1020 (by decide)
          have ws1020_79 : iI s1020 79 = iI s1015 79 := fm_i Fs1020 (by decide)
          have ws1020_78 : iI s1020 78 = iI s1015 78 := fm_i Fs1020 (by decide)
          have ws1020_90 : iI s1020 90 = iI s1015 90 := fm_i Fs1020 (by decide)
          have ws1020_91 : iI s1020 91 = iI s1015 91 := fm_i Fs1020 (by decide)
          have ws1020_81 : iI s1020 81 = iI s1015 81 := fm_i Fs1020 (by decide)
          have aws1020_SWM : SWM s s1020 := swm_ts aws1015_SWM (swm_fm Fs1020 (by decide))
          show WS k 120 [(0, .ref (A 179)), (1, .int (Int32.ofInt xv))] [] (Wd A dT s1020) 0 0
          refine z_goto X (t := 94) (show cdA 200 120 = some (.goto (-26), 3, 0, 0, 0) from rfl) (by decide) ?_
          refine WS_lv (lv := [(0, .ref (A 179)), (1, .int (Int32.ofInt xv))]) (List.forall_mem_cons.mpr ⟨(List.Mem.head _), (List.forall_mem_cons.mpr ⟨(List.Mem.tail _ (List.Mem.head _)), (fun q h => absurd h List.not_mem_nil)⟩)⟩) ?_
          exact ih _ xv Is1020 Gs1020 JRLx_s1020 JFDA_s1020 ⟨⟨fun _ => JTD_s1020, wm_up w1 (by omega) hps1015.2.2.2.2 (by omega) hps1020.1 (sam_fm Fs1020 (by decide)) (by omega)⟩, aws1020_SWM⟩ (by first | exact ⟨And.intro (hi.1.1) (And.intro (hi.1.2.1) (hi.1.2.2)), oq_7fe879e0 ws1020_74 ws1015_74 hi.2.1 b1002.1, oq_878618b1 ws1020_75 ws1015_75 hi.2.2.1, by omega, by omega, oq_fed65c02 ws1020_91 hps1015.2.2.1, oq_d0d2714e ws1020_90 hi.2.2.2.2.2.2.1 ws1015_90, hi.2.2.2.2.2.2.2.1, oq_7fe879e0 ws1020_81 ws1015_81 hi.2.2.2.2.2.2.2.2.1 b1009.1, oq_7fe879e0 ws1020_73 ws1015_73 hi.2.2.2.2.2.2.2.2.2 b1001.1⟩ | omega) (by first | exact qk_me hm (oq_849580a5 ws1020_79 hps1020.2.1 b1018.1 hps1015.2.2.2.1 hps1015.1 g1011) (oq_faaf1092 g1011 b1012.2) | omega) kx
  have L161 : ∀ (n : Nat) (t : PS) (xv c : Int), Bd t → Fm [73, 74, 76, 90, 91, 77, 75, 78, 79, 80, 81] [165, 162, 166, 167, 168, 169, 170, 171, 172, 173, 174, 175, 176, 177, 178, 179, 180, 181, 182, 183, 184, 185, 186, 187, 188, 189] s t → RLx t → FDA B t → ((TD t ∧ RLx t ∧ ∀ i : Nat, i < 128 → (i : Int) < c → iC t (178 + (iI s 90 : Int).toNat) i < iC t 162 (iI s 90 : Int).toNat) ∧ (WFM B x (iI s 90) 0 s t ∧ LFN (iI s 90) c t)) → ((0 ≤ x ∧ x ≤ iI s 74 ∧ x ≤ 100) ∧ iI t 74 = 0 ∧ 1 ≤ iI t 91 ∧ iI t 90 = iI s 90 ∧ iI s 90 ≤ 11 ∧ 0 ≤ c ∧ c ≤ 128 ∧ iC t 162 (iI s 90 : Int).toNat = iI t 91 ∧ iI t 73 = 0) → (128 - c : Int).toNat < n → (∀ (t' : PS) (c' : Int), Bd t' → Fm [73, 74, 76, 90, 91, 77, 75, 78, 79, 80, 81] [165, 162, 166, 167, 168, 169, 170, 171, 172, 173, 174, 175, 176, 177, 178, 179, 180, 181, 182, 183, 184, 185, 186, 187, 188, 189] s t' → RLx t' → FDA B t' → ((TD t' ∧ RLx t' ∧ ∀ i : Nat, i < 128 → (i : Int) < c' → iC t' (178 + (iI s 90 : Int).toNat) i < iC t' 162 (iI s 90 : Int).toNat) ∧ (WFM B x (iI s 90) 0 s t' ∧ LFN (iI s 90) c' t')) → ((0 ≤ x ∧ x ≤ iI s 74 ∧ x ≤ 100) ∧ iI t' 74 = 0 ∧ 1 ≤ iI t' 91 ∧ iI t' 90 = iI s 90 ∧ iI s 90 ≤ 11 ∧ c' = 128 ∧ iC t' 162 (iI s 90 : Int).toNat = iI t' 91 ∧ iI t' 73 = 0) → WS k 186 [(0, .ref (A 179)), (1, .int (Int32.ofInt xv)), (2, .int (Int32.ofInt c'))] [] (Wd A dT t') 0 0) → WS k 161 [(0, .ref (A 179)), (1, .int (Int32.ofInt xv)), (2, .int (Int32.ofInt c))] [] (Wd A dT t) 0 0 := by
    intro n
    induction n with
    | zero =>
      intro t xv c I F jjRLx jjFDA hq hi hm kx
      exact absurd hm (Nat.not_lt_zero _)
    | succ n ih =>
      intro t xv c I F jjRLx jjFDA hq hi hm kx
      have b2001 : (0 : Int) ≤ iI t 73 ∧ iI t 73 ≤ 3 := I.1 73
      have b2002 : (0 : Int) ≤ iI t 74 ∧ iI t 74 ≤ 200 := I.1 74
      have b2003 : (0 : Int) ≤ iI t 77 ∧ iI t 77 ≤ 400 := I.1 77
      have b2004 : (0 : Int) ≤ iI t 75 ∧ iI t 75 ≤ 200 := I.1 75
      have b2005 : (0 : Int) ≤ iI t 79 ∧ iI t 79 ≤ 9 := I.1 79
      have b2006 : (0 : Int) ≤ iI t 78 ∧ iI t 78 ≤ 8 := I.1 78
      have b2007 : (0 : Int) ≤ iI t 90 ∧ iI t 90 ≤ 12 := I.1 90
      have b2008 : (0 : Int) ≤ iI t 91 ∧ iI t 91 ≤ 24 := I.1 91
      have b2009 : (0 : Int) ≤ iI t 81 ∧ iI t 81 ≤ 1 := I.1 81
      obtain ⟨hq, hw⟩ := hq
      refine z_load_n X (x := c) (show cdA 200 161 = some (.iload_n 2, 1, 0, 0, 0) from rfl) (List.Mem.tail _ (List.Mem.tail _ (List.Mem.head _))) ?_
      refine z_sipush X (show cdA 200 162 = some (.sipush 128, 3, 0, 0, 128) from rfl) ?_
      refine z_icmp_ge X (t := 186) (show cdA 200 165 = some (.if_icmp .ge 21, 3, 3, 0, 0) from rfl) (by decide) ⟨by first | exact oq_fa4e5087 hi.2.2.2.2.2.1 | omega, by first | exact oq_4ee82282 hi.2.2.2.2.2.2.1 | omega⟩ (by decide) (fun g2010 => ?_) (fun g2010 => ?_)
      ·
        refine WS_lv (lv := [(0, .ref (A 179)), (1, .int (Int32.ofInt xv)), (2, .int (Int32.ofInt c))]) (List.forall_mem_cons.mpr ⟨(List.Mem.head _), (List.forall_mem_cons.mpr ⟨(List.Mem.tail _ (List.Mem.head _)), (List.forall_mem_cons.mpr ⟨(List.Mem.tail _ (List.Mem.tail _ (List.Mem.head _))), (fun q h => absurd h List.not_mem_nil)⟩)⟩)⟩) ?_
        exact kx _ c I F jjRLx jjFDA ⟨hq, hw⟩ (by first | exact ⟨And.intro (hi.1.1) (And.intro (hi.1.2.1) (hi.1.2.2)), hi.2.1, hi.2.2.1, hi.2.2.2.1, hi.2.2.2.2.1, oq_42fe298a hi.2.2.2.2.2.2.1 g2010, hi.2.2.2.2.2.2.2.1, hi.2.2.2.2.2.2.2.2⟩ | omega)
      ·
        refine z_aload_n X (x := A 179) (show cdA 200 168 = some (.aload_n 0, 1, 0, 0, 0) from rfl) (List.Mem.head _) ?_
        refine s_getR X 179 (show cdA 200 169 = some (.getfield 52, 3, 12, 29, 0) from rfl) (by decide) rfl rfl ?_
        refine z_aload_n X (x := A 179) (show cdA 200 172 = some (.aload_n 0, 1, 0, 0, 0) from rfl) (List.Mem.head _) ?_
        refine z_getI X 179 (show cdA 200 173 = some (.getfield 233, 3, 12, 22, 0) from rfl) (by decide) rfl rfl ?_
        have b2011 : (0 : Int) ≤ iI t 90 ∧ iI t 90 ≤ 12 := I.1 90
        refine z_aald X rw_202 (show cdA 200 176 = some (.aaload, 1, 0, 0, 0) from rfl) (by first | exact b2011.1 | omega) (show (iI t 90) < 12 by first | exact oq_210fcd76 hi.2.2.2.1 hi.2.2.2.2.1 | omega) (by decide) ?_
        refine z_load_n X (x := c) (show cdA 200 177 = some (.iload_n 2, 1, 0, 0, 0) from rfl) (List.Mem.tail _ (List.Mem.tail _ (List.Mem.head _))) ?_
        refine z_const X (show cdA 200 178 = some (.iconst (-1), 1, 0, 0, 0) from rfl) ?_
        refine z_ast2 X rw_202 (show cdA 200 179 = some (.iastore, 1, 0, 0, 0) from rfl) (show ((iI t 90) : Int).toNat < 12 by first | exact oq_cba5df33 hi.2.2.2.1 hi.2.2.2.2.1 | omega) (by first | exact hi.2.2.2.2.2.1 | omega) (show c < 128 by first | exact g2010 | omega) (by decide) ?_
        obtain ⟨s2012, hs2012⟩ : ∃ x0, x0 = uC t (178 + ((iI t 90) : Int).toNat) (c : Int).toNat (Int32.ofInt (-1)) := ⟨_, rfl⟩
        rw [← hs2012]
        have Is2012 : Bd s2012 := by rw [hs2012]; exact rw_st rw_202 I (show ((iI t 90) : Int).toNat < 12 by first | exact oq_cba5df33 hi.2.2.2.1 hi.2.2.2.2.1 | omega) (show ((-1) : Int) ≤ (-1) ∧ (-1) ≤ 23 by first | exact ⟨by decide, by decide⟩ | omega) (by decide)
        have Fs2012 := fm_C (i := (c : Int).toNat) (x := Int32.ofInt (-1)) F ((show ∀ j, j < 12 → 178 + j ∈ _ by decide) ((iI t 90) : Int).toNat (by first | exact oq_cba5df33 hi.2.2.2.1 hi.2.2.2.2.1 | omega))
        rw [← hs2012] at Fs2012
        have ws2012_73 : iI s2012 73 = iI t 73 := by rw [hs2012]; rfl
        have ws2012_74 : iI s2012 74 = iI t 74 := by rw [hs2012]; rfl
        have ws2012_77 : iI s2012 77 = iI t 77 := by rw [hs2012]; rfl
        have ws2012_75 : iI s2012 75 = iI t 75 := by rw [hs2012]; rfl
        have ws2012_79 : iI s2012 79 = iI t 79 := by rw [hs2012]; rfl
        have ws2012_78 : iI s2012 78 = iI t 78 := by rw [hs2012]; rfl
        have ws2012_90 : iI s2012 90 = iI t 90 := by rw [hs2012]; rfl
        have ws2012_91 : iI s2012 91 = iI t 91 := by rw [hs2012]; rfl
        have ws2012_81 : iI s2012 81 = iI t 81 := by rw [hs2012]; rfl
        have fs2012 : Fm [] [178, 179, 180, 181, 182, 183, 184, 185, 186, 187, 188, 189] t s2012 := by rw [hs2012]; exact fm_C (fm_rf _ _ _) ((show ∀ j, j < 12 → 178 + j ∈ _ by decide) ((iI t 90) : Int).toNat (by first | exact oq_cba5df33 hi.2.2.2.1 hi.2.2.2.2.1 | omega))
        have JFDA_s2012 : FDA B s2012 := FDA_fm fs2012 (by decide) jjFDA
        have JTD_s2012 : TD s2012 := TD_fm fs2012 (by decide) hq.1
        refine z_inc X (x := c) (lv' := [(2, .int (Int32.ofInt (c + 1))), (0, .ref (A 179)), (1, .int (Int32.ofInt xv))]) (show cdA 200 180 = some (.iinc 2 1, 3, 0, 0, 0) from rfl) (by decide) (List.Mem.tail _ (List.Mem.tail _ (List.Mem.head _))) (fun _ h => h) ?_
        refine z_goto X (t := 161) (show cdA 200 183 = some (.goto (-22), 3, 0, 0, 0) from rfl) (by decide) ?_
        refine WS_lv (lv := [(0, .ref (A 179)), (1, .int (Int32.ofInt xv)), (2, .int (Int32.ofInt (c + 1)))]) (List.forall_mem_cons.mpr ⟨(List.Mem.tail _ (List.Mem.head _)), (List.forall_mem_cons.mpr ⟨(List.Mem.tail _ (List.Mem.tail _ (List.Mem.head _))), (List.forall_mem_cons.mpr ⟨(List.Mem.head _), (fun q h => absurd h List.not_mem_nil)⟩)⟩)⟩) ?_
        have es_s2012 : iI t 90 = iI s 90 := by omega
        have vm_s2012 : iC s2012 162 (iI s 90 : Int).toNat = iC t 162 (iI s 90 : Int).toNat := by rw [hs2012, iC_a (by omega)]
        have hL2013 : TD s2012 ∧ RLx s2012 ∧ ∀ i : Nat, i < 128 → (i : Int) < (c + 1) → iC s2012 (178 + (iI s 90 : Int).toNat) i < iC s2012 162 (iI s 90 : Int).toNat := by
          refine ⟨JTD_s2012, by rw [hs2012, es_s2012]; exact RLx_l hq.2.1 (by omega), fun i hi h => ?_⟩
          rw [vm_s2012]
          by_cases e : i = (c : Int).toNat
          · rw [e, hs2012, es_s2012, iC_u ⟨by omega, by omega⟩]; omega
          · rw [hs2012, es_s2012, iC_n e]; exact hq.2.2 i hi (by omega)
        exact ih _ xv (c + 1) Is2012 Fs2012 hL2013.2.1 JFDA_s2012 ⟨hL2013, ⟨by rw [hs2012]; exact wfm_li hw.1 (by omega) (by omega), by rw [hs2012]; exact lfn_up hw.2 (by omega) (by omega)⟩⟩ (by first | exact ⟨And.intro (hi.1.1) (And.intro (hi.1.2.1) (hi.1.2.2)), oq_333640b7 ws2012_74 hi.2.1 b2002.1, oq_fed65c02 ws2012_91 hi.2.2.1, oq_1aa5be9e ws2012_90 es_s2012, hi.2.2.2.2.1, oq_54f49eb5 hi.2.2.2.2.2.1, oq_d2afb425 g2010, oq_f5ee3737 ws2012_91 vm_s2012 hi.2.2.2.2.2.2.2.1, oq_333640b7 ws2012_73 hi.2.2.2.2.2.2.2.2 b2001.1⟩ | omega) (by first | exact qk_me hm (by decide) (oq_c268b7bd g2010) | omega) kx
  have L188 : ∀ (n : Nat) (t : PS) (xv c : Int), Bd t → Fm [73, 74, 76, 90, 91, 77, 75, 78, 79, 80, 81] [165, 162, 166, 167, 168, 169, 170, 171, 172, 173, 174, 175, 176, 177, 178, 179, 180, 181, 182, 183, 184, 185, 186, 187, 188, 189] s t → RLx t → FDA B t → ((TD t ∧ RLx t ∧ ∀ i : Nat, i < 128 → (i : Int) < 128 → iC t (178 + (iI s 90 : Int).toNat) i < iC t 162 (iI s 90 : Int).toNat) ∧ (WFM B x (iI s 90) c s t ∧ LFP B x (iI s 90) c t)) → ((0 ≤ x ∧ x ≤ iI s 74 ∧ x ≤ 100) ∧ iI t 74 = 0 ∧ 1 ≤ iI t 91 ∧ iI t 90 = iI s 90 ∧ iI s 90 ≤ 11 ∧ 0 ≤ c ∧ c ≤ 24 ∧ iC t 162 (iI s 90 : Int).toNat = iI t 91 ∧ iI t 73 = 0) → (24 - c : Int).toNat < n → (∀ (t' : PS) (c' : Int), Bd t' → Fm [73, 74, 76, 90, 91, 77, 75, 78, 79, 80, 81] [165, 162, 166, 167, 168, 169, 170, 171, 172, 173, 174, 175, 176, 177, 178, 179, 180, 181, 182, 183, 184, 185, 186, 187, 188, 189] s t' → RLx t' → FDA B t' → ((TD t' ∧ RLx t' ∧ ∀ i : Nat, i < 128 → (i : Int) < 128 → iC t' (178 + (iI s 90 : Int).toNat) i < iC t' 162 (iI s 90 : Int).toNat) ∧ (WFM B x (iI s 90) c' s t' ∧ LFP B x (iI s 90) c' t')) → ((0 ≤ x ∧ x ≤ iI s 74 ∧ x ≤ 100) ∧ iI t' 74 = 0 ∧ 1 ≤ iI t' 91 ∧ iI t' 90 = iI s 90 ∧ iI s 90 ≤ 11 ∧ 0 ≤ c' ∧ c' ≤ 24 ∧ iC t' 162 (iI s 90 : Int).toNat = iI t' 91 ∧ iI t' 73 = 0 ∧ iI t' 91 ≤ c') → WS k 236 [(0, .ref (A 179)), (1, .int (Int32.ofInt xv)), (2, .int (Int32.ofInt c'))] [] (Wd A dT t') 0 0) → WS k 188 [(0, .ref (A 179)), (1, .int (Int32.ofInt xv)), (2, .int (Int32.ofInt c))] [] (Wd A dT t) 0 0 := by
    intro n
    induction n with
    | zero =>
      intro t xv c I F jjRLx jjFDA hq hi hm kx
      exact absurd hm (Nat.not_lt_zero _)
    | succ n ih =>
      intro t xv c I F jjRLx jjFDA hq hi hm kx
      have b3001 : (0 : Int) ≤ iI t 73 ∧ iI t 73 ≤ 3 := I.1 73
      have b3002 : (0 : Int) ≤ iI t 74 ∧ iI t 74 ≤ 200 := I.1 74
      have b3003 : (0 : Int) ≤ iI t 77 ∧ iI t 77 ≤ 400 := I.1 77
      have b3004 : (0 : Int) ≤ iI t 75 ∧ iI t 75 ≤ 200 := I.1 75
      have b3005 : (0 : Int) ≤ iI t 79 ∧ iI t 79 ≤ 9 := I.1 79
      have b3006 : (0 : Int) ≤ iI t 78 ∧ iI t 78 ≤ 8 := I.1 78
      have b3007 : (0 : Int) ≤ iI t 90 ∧ iI t 90 ≤ 12 := I.1 90
      have b3008 : (0 : Int) ≤ iI t 91 ∧ iI t 91 ≤ 24 := I.1 91
      have b3009 : (0 : Int) ≤ iI t 81 ∧ iI t 81 ≤ 1 := I.1 81
      obtain ⟨hq, hw⟩ := hq
      refine z_load_n X (x := c) (show cdA 200 188 = some (.iload_n 2, 1, 0, 0, 0) from rfl) (List.Mem.tail _ (List.Mem.tail _ (List.Mem.head _))) ?_
      refine z_aload_n X (x := A 179) (show cdA 200 189 = some (.aload_n 0, 1, 0, 0, 0) from rfl) (List.Mem.head _) ?_
      refine z_getI X 179 (show cdA 200 190 = some (.getfield 216, 3, 12, 27, 0) from rfl) (by decide) rfl rfl ?_
      have b3010 : (0 : Int) ≤ iI t 91 ∧ iI t 91 ≤ 24 := I.1 91
      refine z_icmp_ge X (t := 236) (show cdA 200 193 = some (.if_icmp .ge 43, 3, 3, 0, 0) from rfl) (by decide) ⟨by first | exact oq_fa4e5087 hi.2.2.2.2.2.1 | omega, by first | exact oq_5bcd337f hi.2.2.2.2.2.2.1 | omega⟩ (rng_to _) (fun g3011 => ?_) (fun g3011 => ?_)
      ·
        refine WS_lv (lv := [(0, .ref (A 179)), (1, .int (Int32.ofInt xv)), (2, .int (Int32.ofInt c))]) (List.forall_mem_cons.mpr ⟨(List.Mem.head _), (List.forall_mem_cons.mpr ⟨(List.Mem.tail _ (List.Mem.head _)), (List.forall_mem_cons.mpr ⟨(List.Mem.tail _ (List.Mem.tail _ (List.Mem.head _))), (fun q h => absurd h List.not_mem_nil)⟩)⟩)⟩) ?_
        exact kx _ c I F jjRLx jjFDA ⟨hq, hw⟩ (by first | exact ⟨And.intro (hi.1.1) (And.intro (hi.1.2.1) (hi.1.2.2)), hi.2.1, hi.2.2.1, hi.2.2.2.1, hi.2.2.2.2.1, hi.2.2.2.2.2.1, hi.2.2.2.2.2.2.1, hi.2.2.2.2.2.2.2.1, hi.2.2.2.2.2.2.2.2, g3011⟩ | omega)
      ·
        refine z_aload_n X (x := A 179) (show cdA 200 196 = some (.aload_n 0, 1, 0, 0, 0) from rfl) (List.Mem.head _) ?_
        refine s_getR X 179 (show cdA 200 197 = some (.getfield 49, 3, 12, 28, 0) from rfl) (by decide) rfl rfl ?_
        refine z_aload_n X (x := A 179) (show cdA 200 200 = some (.aload_n 0, 1, 0, 0, 0) from rfl) (List.Mem.head _) ?_
        refine z_getI X 179 (show cdA 200 201 = some (.getfield 233, 3, 12, 22, 0) from rfl) (by decide) rfl rfl ?_
        have b3012 : (0 : Int) ≤ iI t 90 ∧ iI t 90 ≤ 12 := I.1 90
        refine z_aald X rw_189 (show cdA 200 204 = some (.aaload, 1, 0, 0, 0) from rfl) (by first | exact b3012.1 | omega) (show (iI t 90) < 12 by first | exact oq_210fcd76 hi.2.2.2.1 hi.2.2.2.2.1 | omega) (by decide) ?_
        refine z_load_n X (x := c) (show cdA 200 205 = some (.iload_n 2, 1, 0, 0, 0) from rfl) (List.Mem.tail _ (List.Mem.tail _ (List.Mem.head _))) ?_
        refine z_aload_n X (x := A 179) (show cdA 200 206 = some (.aload_n 0, 1, 0, 0, 0) from rfl) (List.Mem.head _) ?_
        refine s_getR X 179 (show cdA 200 207 = some (.getfield 44, 3, 12, 26, 0) from rfl) (by decide) rfl rfl ?_
        refine z_load_n X (x := c) (show cdA 200 210 = some (.iload_n 2, 1, 0, 0, 0) from rfl) (List.Mem.tail _ (List.Mem.tail _ (List.Mem.head _))) ?_
        have hT3013 := hq.1 (c : Int).toNat (by omega)
        refine z_ald X 188 (show cdA 200 211 = some (.iaload, 1, 0, 0, 0) from rfl) (by decide) rfl (by first | exact hi.2.2.2.2.2.1 | omega) (show c < 24 by first | exact oq_8ff7beb9 g3011 b3010.2 | omega) (by decide) ?_
        have b3014 : ((-2147483648) : Int) ≤ iC t 165 (c).toNat ∧ iC t 165 (c).toNat ≤ 2147483647 := I.2 165 _ (show (c).toNat < 24 by first | exact oq_9e668fc9 g3011 b3010.2 | omega)
        refine z_ast2 X rw_189 (show cdA 200 212 = some (.iastore, 1, 0, 0, 0) from rfl) (show ((iI t 90) : Int).toNat < 12 by first | exact oq_cba5df33 hi.2.2.2.1 hi.2.2.2.2.1 | omega) (by first | exact hi.2.2.2.2.2.1 | omega) (show c < 24 by first | exact oq_8ff7beb9 g3011 b3010.2 | omega) (by decide) ?_
        obtain ⟨s3015, hs3015⟩ : ∃ x0, x0 = uC t (166 + ((iI t 90) : Int).toNat) (c : Int).toNat (Int32.ofInt (iC t 165 (c).toNat)) := ⟨_, rfl⟩
        rw [← hs3015]
        have Is3015 : Bd s3015 := by rw [hs3015]; exact rw_st rw_189 I (show ((iI t 90) : Int).toNat < 12 by first | exact oq_cba5df33 hi.2.2.2.1 hi.2.2.2.2.1 | omega) (show (0 : Int) ≤ (iC t 165 (c).toNat) ∧ (iC t 165 (c).toNat) ≤ 127 by omega) (rng_to _)
        have Fs3015 := fm_C (i := (c : Int).toNat) (x := Int32.ofInt (iC t 165 (c).toNat)) F ((show ∀ j, j < 12 → 166 + j ∈ _ by decide) ((iI t 90) : Int).toNat (by first | exact oq_cba5df33 hi.2.2.2.1 hi.2.2.2.2.1 | omega))
        rw [← hs3015] at Fs3015
        have ws3015_73 : iI s3015 73 = iI t 73 := by rw [hs3015]; rfl
        have ws3015_74 : iI s3015 74 = iI t 74 := by rw [hs3015]; rfl
        have ws3015_77 : iI s3015 77 = iI t 77 := by rw [hs3015]; rfl
        have ws3015_75 : iI s3015 75 = iI t 75 := by rw [hs3015]; rfl
        have ws3015_79 : iI s3015 79 = iI t 79 := by rw [hs3015]; rfl
        have ws3015_78 : iI s3015 78 = iI t 78 := by rw [hs3015]; rfl
        have ws3015_90 : iI s3015 90 = iI t 90 := by rw [hs3015]; rfl
        have ws3015_91 : iI s3015 91 = iI t 91 := by rw [hs3015]; rfl
        have ws3015_81 : iI s3015 81 = iI t 81 := by rw [hs3015]; rfl
        have fs3015 : Fm [] [166, 167, 168, 169, 170, 171, 172, 173, 174, 175, 176, 177] t s3015 := by rw [hs3015]; exact fm_C (fm_rf _ _ _) ((show ∀ j, j < 12 → 166 + j ∈ _ by decide) ((iI t 90) : Int).toNat (by first | exact oq_cba5df33 hi.2.2.2.1 hi.2.2.2.2.1 | omega))
        have JRLx_s3015 : RLx s3015 := RLx_fm fs3015 (by decide) jjRLx
        have JFDA_s3015 : FDA B s3015 := FDA_fm fs3015 (by decide) jjFDA
        have JTD_s3015 : TD s3015 := TD_fm fs3015 (by decide) hq.1
        refine z_aload_n X (x := A 179) (show cdA 200 213 = some (.aload_n 0, 1, 0, 0, 0) from rfl) (List.Mem.head _) ?_
        refine s_getR X 179 (show cdA 200 214 = some (.getfield 52, 3, 12, 29, 0) from rfl) (by decide) rfl rfl ?_
        refine z_aload_n X (x := A 179) (show cdA 200 217 = some (.aload_n 0, 1, 0, 0, 0) from rfl) (List.Mem.head _) ?_
        refine z_getI X 179 (show cdA 200 218 = some (.getfield 233, 3, 12, 22, 0) from rfl) (by decide) rfl rfl ?_
        have b3016 : (0 : Int) ≤ iI s3015 90 ∧ iI s3015 90 ≤ 12 := Is3015.1 90
        refine z_aald X rw_202 (show cdA 200 221 = some (.aaload, 1, 0, 0, 0) from rfl) (by first | exact b3016.1 | omega) (show (iI s3015 90) < 12 by first | exact oq_e2284db0 ws3015_90 hi.2.2.2.1 hi.2.2.2.2.1 | omega) (by decide) ?_
        refine z_aload_n X (x := A 179) (show cdA 200 222 = some (.aload_n 0, 1, 0, 0, 0) from rfl) (List.Mem.head _) ?_
        refine s_getR X 179 (show cdA 200 223 = some (.getfield 44, 3, 12, 26, 0) from rfl) (by decide) rfl rfl ?_
        refine z_load_n X (x := c) (show cdA 200 226 = some (.iload_n 2, 1, 0, 0, 0) from rfl) (List.Mem.tail _ (List.Mem.tail _ (List.Mem.head _))) ?_
        have hT3017 := JTD_s3015 (c : Int).toNat (by omega)
        refine z_ald X 188 (show cdA 200 227 = some (.iaload, 1, 0, 0, 0) from rfl) (by decide) rfl (by first | exact hi.2.2.2.2.2.1 | omega) (show c < 24 by first | exact oq_8ff7beb9 g3011 b3010.2 | omega) (by decide) ?_
        have b3018 : ((-2147483648) : Int) ≤ iC s3015 165 (c).toNat ∧ iC s3015 165 (c).toNat ≤ 2147483647 := Is3015.2 165 _ (show (c).toNat < 24 by first | exact oq_9e668fc9 g3011 b3010.2 | omega)
        refine z_load_n X (x := c) (show cdA 200 228 = some (.iload_n 2, 1, 0, 0, 0) from rfl) (List.Mem.tail _ (List.Mem.tail _ (List.Mem.head _))) ?_
        refine z_ast2 X rw_202 (show cdA 200 229 = some (.iastore, 1, 0, 0, 0) from rfl) (show ((iI s3015 90) : Int).toNat < 12 by first | exact oq_29bc6d1f ws3015_90 hi.2.2.2.1 hi.2.2.2.2.1 | omega) (by omega) (show (iC s3015 165 (c).toNat) < 128 by omega) (by decide) ?_
        obtain ⟨s3019, hs3019⟩ : ∃ x0, x0 = uC s3015 (178 + ((iI s3015 90) : Int).toNat) ((iC s3015 165 (c).toNat) : Int).toNat (Int32.ofInt c) := ⟨_, rfl⟩
        rw [← hs3019]
        have Is3019 : Bd s3019 := by rw [hs3019]; exact rw_st rw_202 Is3015 (show ((iI s3015 90) : Int).toNat < 12 by first | exact oq_29bc6d1f ws3015_90 hi.2.2.2.1 hi.2.2.2.2.1 | omega) (show ((-1) : Int) ≤ c ∧ c ≤ 23 by first | exact ⟨oq_ca54ea22 hi.2.2.2.2.2.1, oq_10212474 g3011 b3010.2⟩ | omega) ⟨by first | exact oq_fa4e5087 hi.2.2.2.2.2.1 | omega, by first | exact oq_5bcd337f hi.2.2.2.2.2.2.1 | omega⟩
        have Fs3019 := fm_C (i := ((iC s3015 165 (c).toNat) : Int).toNat) (x := Int32.ofInt c) Fs3015 ((show ∀ j, j < 12 → 178 + j ∈ _ by decide) ((iI s3015 90) : Int).toNat (by first | exact oq_29bc6d1f ws3015_90 hi.2.2.2.1 hi.2.2.2.2.1 | omega))
        rw [← hs3019] at Fs3019
        have ws3019_73 : iI s3019 73 = iI s3015 73 := by rw [hs3019]; rfl
        have ws3019_74 : iI s3019 74 = iI s3015 74 := by rw [hs3019]; rfl
        have ws3019_77 : iI s3019 77 = iI s3015 77 := by rw [hs3019]; rfl
        have ws3019_75 : iI s3019 75 = iI s3015 75 := by rw [hs3019]; rfl
        have ws3019_79 : iI s3019 79 = iI s3015 79 := by rw [hs3019]; rfl
        have ws3019_78 : iI s3019 78 = iI s3015 78 := by rw [hs3019]; rfl
        have ws3019_90 : iI s3019 90 = iI s3015 90 := by rw [hs3019]; rfl
        have ws3019_91 : iI s3019 91 = iI s3015 91 := by rw [hs3019]; rfl
        have ws3019_81 : iI s3019 81 = iI s3015 81 := by rw [hs3019]; rfl
        have fs3019 : Fm [] [178, 179, 180, 181, 182, 183, 184, 185, 186, 187, 188, 189] s3015 s3019 := by rw [hs3019]; exact fm_C (fm_rf _ _ _) ((show ∀ j, j < 12 → 178 + j ∈ _ by decide) ((iI s3015 90) : Int).toNat (by first | exact oq_29bc6d1f ws3015_90 hi.2.2.2.1 hi.2.2.2.2.1 | omega))
        have JFDA_s3019 : FDA B s3019 := FDA_fm fs3019 (by decide) JFDA_s3015
        have JTD_s3019 : TD s3019 := TD_fm fs3019 (by decide) JTD_s3015
        refine z_inc X (x := c) (lv' := [(2, .int (Int32.ofInt (c + 1))), (0, .ref (A 179)), (1, .int (Int32.ofInt xv))]) (show cdA 200 230 = some (.iinc 2 1, 3, 0, 0, 0) from rfl) (by decide) (List.Mem.tail _ (List.Mem.tail _ (List.Mem.head _))) (fun _ h => h) ?_
        refine z_goto X (t := 188) (show cdA 200 233 = some (.goto (-45), 3, 0, 0, 0) from rfl) (by decide) ?_
        refine WS_lv (lv := [(0, .ref (A 179)), (1, .int (Int32.ofInt xv)), (2, .int (Int32.ofInt (c + 1)))]) (List.forall_mem_cons.mpr ⟨(List.Mem.tail _ (List.Mem.head _)), (List.forall_mem_cons.mpr ⟨(List.Mem.tail _ (List.Mem.tail _ (List.Mem.head _))), (List.forall_mem_cons.mpr ⟨(List.Mem.head _), (fun q h => absurd h List.not_mem_nil)⟩)⟩)⟩) ?_
        have es_s3019 : iI s3015 90 = iI s 90 := by omega
        have eo_s3019 : iI t 90 = iI s 90 := by omega
        have vm_s3019 : iC s3019 162 (iI s 90 : Int).toNat = iC t 162 (iI s 90 : Int).toNat := by rw [hs3019, iC_a (by omega), hs3015, iC_a (by omega)]
        have rl_s3019 : RLx s3015 := by rw [hs3015]; exact RLx_w hq.2.1 ⟨by omega, fun j hj => by omega⟩
        have hL3020 : TD s3019 ∧ RLx s3019 ∧ ∀ i : Nat, i < 128 → (i : Int) < 128 → iC s3019 (178 + (iI s 90 : Int).toNat) i < iC s3019 162 (iI s 90 : Int).toNat := by
          refine ⟨JTD_s3019, by rw [hs3019, es_s3019]; exact RLx_l rl_s3019 (by omega), fun i hi h => ?_⟩
          rw [vm_s3019]
          by_cases e : i = ((iC s3015 165 (c).toNat) : Int).toNat
          · rw [e, hs3019, es_s3019, iC_u ⟨by omega, by omega⟩]; omega
          · rw [hs3019, es_s3019, iC_n e, hs3015, iC_a (by omega)]; exact hq.2.2 i hi (by omega)
        exact ih _ xv (c + 1) Is3019 Fs3019 hL3020.2.1 JFDA_s3019 ⟨hL3020, ⟨by rw [hs3019]; exact wfm_li (by rw [hs3015]; exact wfm_w hw.1 (by omega) (by omega) (by omega) rfl (rng_to _)) (by omega) (by omega), by rw [hs3019]; exact lfp_up hw.2 hw.1 (by omega) (by omega) (by omega) (by omega) (by rw [hs3015]; exact iC_a (by omega)) (by omega) (fun j => by rw [hs3015]; exact iC_a (by omega))⟩⟩ (by first | exact ⟨And.intro (hi.1.1) (And.intro (hi.1.2.1) (hi.1.2.2)), oq_7fe879e0 ws3019_74 ws3015_74 hi.2.1 b3002.1, oq_48a46d4a ws3019_91 ws3015_91 hi.2.2.1, oq_1aa5be9e ws3019_90 es_s3019, hi.2.2.2.2.1, oq_54f49eb5 hi.2.2.2.2.2.1, oq_41473be0 g3011 b3010.2, oq_123e5d3a ws3019_91 vm_s3019 ws3015_91 hi.2.2.2.2.2.2.2.1, oq_7fe879e0 ws3019_73 ws3015_73 hi.2.2.2.2.2.2.2.2 b3001.1⟩ | omega) (by first | exact qk_me hm (by decide) (oq_9dea93e6 g3011 b3010.2) | omega) kx
  refine z_aload_n X (x := A 179) (show cdA 200 0 = some (.aload_n 0, 1, 0, 0, 0) from rfl) (List.Mem.head _) ?_
  refine z_const X (show cdA 200 1 = some (.iconst 0, 1, 0, 0, 0) from rfl) ?_
  refine s_putI X 179 (show cdA 200 2 = some (.putfield 172, 3, 12, 0, 0) from rfl) (by decide) rfl rfl (by decide) rfl rfl rfl ?_
  obtain ⟨s10, hs10⟩ : ∃ x0, x0 = uI s 73 (Int32.ofInt 0) := ⟨_, rfl⟩
  rw [← hs10]
  have Is10 : Bd s10 := by rw [hs10]; exact bd_I I (show (0 : Int) ≤ 0 ∧ 0 ≤ 3 by first | exact ⟨by decide, by decide⟩ | omega) (by decide)
  have Fs10 := fm_I (x := Int32.ofInt 0) F (show 73 ∈ _ by decide)
  rw [← hs10] at Fs10
  have vs10 : iI s10 73 = 0 := by rw [hs10]; exact iI_u (by decide)
  have ws10_74 : iI s10 74 = iI s 74 := by rw [hs10]; rfl
  have ws10_77 : iI s10 77 = iI s 77 := by rw [hs10]; rfl
  have ws10_75 : iI s10 75 = iI s 75 := by rw [hs10]; rfl
  have ws10_79 : iI s10 79 = iI s 79 := by rw [hs10]; rfl
  have ws10_78 : iI s10 78 = iI s 78 := by rw [hs10]; rfl
  have ws10_90 : iI s10 90 = iI s 90 := by rw [hs10]; rfl
  have ws10_91 : iI s10 91 = iI s 91 := by rw [hs10]; rfl
  have ws10_81 : iI s10 81 = iI s 81 := by rw [hs10]; rfl
  have aws10_SWM : SWM s s10 := by rw [hs10]; exact aw0_SWM
  have fs10 : Fm [73] [] s s10 := by rw [hs10]; exact fm_I (fm_rf _ _ _) (show 73 ∈ _ by decide)
  have JRLx_s10 : RLx s10 := RLx_fm fs10 (by decide) jRLx
  have JFDA_s10 : FDA B s10 := FDA_fm fs10 (by decide) jFDA
  refine z_aload_n X (x := A 179) (show cdA 200 5 = some (.aload_n 0, 1, 0, 0, 0) from rfl) (List.Mem.head _) ?_
  refine z_load_n X (x := x) (show cdA 200 6 = some (.iload_n 1, 1, 0, 0, 0) from rfl) (List.Mem.tail _ (List.Mem.head _)) ?_
  refine z_const X (show cdA 200 7 = some (.iconst 0, 1, 0, 0, 0) from rfl) ?_
  refine z_aload_n X (x := A 179) (show cdA 200 8 = some (.aload_n 0, 1, 0, 0, 0) from rfl) (List.Mem.head _) ?_
  refine z_getI X 179 (show cdA 200 9 = some (.getfield 175, 3, 12, 1, 0) from rfl) (by decide) rfl rfl ?_
  have b11 : (0 : Int) ≤ iI s10 74 ∧ iI s10 74 ≤ 200 := Is10.1 74
  refine z_bipush X (show cdA 200 12 = some (.bipush 100, 2, 0, 0, 100) from rfl) ?_
  have N12 : ∀ e13 : Int, (((100 ≤ (iI s10 74)) ∧ e13 = 100) ∨ (((iI s10 74) < 100) ∧ ((0 : Int) ≤ iI s10 74 ∧ iI s10 74 ≤ 200) ∧ e13 = (iI s10 74))) → WS k 26 [(0, .ref (A 179)), (1, .int (Int32.ofInt x))] [.int (Int32.ofInt e13), .int (Int32.ofInt 0), .int (Int32.ofInt x), .ref (A 179)] (Wd A dT s10) 0 0 := by
    intro e13 he13
    refine z_callS X (rm := rmN 188) (As := [.int (Int32.ofInt x), .int (Int32.ofInt 0), .int (Int32.ofInt e13)]) (st := [.ref (A 179)]) (show cdA 200 26 = some (.invokestatic 209, 3, 188, 1, 0) from rfl) rfl (by rw [E.1, E.2.1, E.2.2.1]; exact k_in2 G Is10 (by first | exact ⟨p0.1, p0.2⟩ | omega) (by first | exact ⟨by decide, by decide⟩ | omega) (by first | exact ⟨oq_24bf7586 he13 b11.1, oq_1539ade6 he13⟩ | omega)) ⟨by rw [E.2.2.2]; exact (show (rmN 188).frames + 1 ≤ (rmN 200).frames by decide), by rw [E.2.2.2]; exact (show 8 + (mNL (miB 188) + 11) + (rmN 188).locals ≤ (rmN 200).locals by decide), by rw [E.2.2.2]; exact (show 0 + (rmN 188).cells ≤ (rmN 200).cells by decide), by rw [E.2.2.2]; exact (show 0 + (rmN 188).slots ≤ (rmN 200).slots by decide)⟩ (Nat.le_of_ble_eq_true rfl) (fun vv s14 hq => ?_) (fun ee s14 hq => ?_)
    rotate_left
    · obtain ⟨rfl, e15, hv, hrs14, hps14⟩ := hq; cases hv
    obtain ⟨rfl, e15, hv, hrs14, hps14⟩ := hq
    cases hv
    show WS k 29 [(0, .ref (A 179)), (1, .int (Int32.ofInt x))] [.int (Int32.ofInt e15), .ref (A 179)] (Wd A dT s10) 0 0
    have N16 : ∀ e17 : Int, (((e15 ≠ 0) ∧ e17 = 0) ∨ ((e15 = 0) ∧ e17 = 1)) → WS k 37 [(0, .ref (A 179)), (1, .int (Int32.ofInt x))] [.int (Int32.ofInt e17), .ref (A 179)] (Wd A dT s10) 0 0 := by
      intro e17 he17
      have re17 : 0 ≤ e17 ∧ e17 ≤ 1 := by omega
      refine z_const X (show cdA 200 37 = some (.iconst 1, 1, 0, 0, 0) from rfl) ?_
      refine z_callV X 179 (rm := rmN 187) (As := [.int (Int32.ofInt e17), .int (Int32.ofInt 1)]) (st := []) (show cdA 200 38 = some (.invokevirtual 229, 3, 187, 0, 0) from rfl) rfl (by decide) rfl (by rw [E.1, E.2.1, E.2.2.1]; exact k_bad2 G Is10 (by first | exact oq_31e518ae re17.2 re17.1 | omega) (by first | exact ⟨by decide, by decide⟩ | omega)) ⟨by rw [E.2.2.2]; exact (show (rmN 187).frames + 1 ≤ (rmN 200).frames by decide), by rw [E.2.2.2]; exact (show 8 + (mNL (miB 187) + 11) + (rmN 187).locals ≤ (rmN 200).locals by decide), by rw [E.2.2.2]; exact (show 0 + (rmN 187).cells ≤ (rmN 200).cells by decide), by rw [E.2.2.2]; exact (show 0 + (rmN 187).slots ≤ (rmN 200).slots by decide)⟩ (Nat.le_of_ble_eq_true rfl) (fun vv s18 hq => ?_) (fun ee s18 hq => ?_)
      rotate_left
      · obtain ⟨Is18, Fs18, e19, hv, hrs18, hps18⟩ := hq; cases hv
      obtain ⟨Is18, Fs18, e19, hv, hrs18, hps18⟩ := hq
      cases hv
      have Gs18 := fm_ts Fs10 Fs18 (by decide) (by decide)
      have JRLx_s18 : RLx s18 := RLx_fm Fs18 (by decide) JRLx_s10
      have JFDA_s18 : FDA B s18 := FDA_fm Fs18 (by decide) JFDA_s10
      have b20 : (0 : Int) ≤ iI s18 73 ∧ iI s18 73 ≤ 3 := Is18.1 73
      have ws18_74 : iI s18 74 = iI s10 74 := fm_i Fs18 (by decide)
      have ws18_77 : iI s18 77 = iI s10 77 := fm_i Fs18 (by decide)
      have ws18_75 : iI s18 75 = iI s10 75 := fm_i Fs18 (by decide)
      have ws18_79 : iI s18 79 = iI s10 79 := fm_i Fs18 (by decide)
      have ws18_78 : iI s18 78 = iI s10 78 := fm_i Fs18 (by decide)
      have ws18_90 : iI s18 90 = iI s10 90 := fm_i Fs18 (by decide)
      have ws18_91 : iI s18 91 = iI s10 91 := fm_i Fs18 (by decide)
      have ws18_81 : iI s18 81 = iI s10 81 := fm_i Fs18 (by decide)
      have aws18_SWM : SWM s s18 := swm_ts aws10_SWM (swm_fm Fs18 (by decide))
      show WS k 41 [(0, .ref (A 179)), (1, .int (Int32.ofInt x))] [.int (Int32.ofInt e19)] (Wd A dT s18) 0 0
      refine z_if_eq X (t := 46) (show cdA 200 41 = some (.ifCond .eq 5, 3, 0, 0, 0) from rfl) (by decide) hrs18 (fun g21 => ?_) (fun g21 => ?_)
      ·
        refine z_aload_n X (x := A 179) (show cdA 200 46 = some (.aload_n 0, 1, 0, 0, 0) from rfl) (List.Mem.head _) ?_
        refine z_const X (show cdA 200 47 = some (.iconst 0, 1, 0, 0, 0) from rfl) ?_
        refine s_putI X 179 (show cdA 200 48 = some (.putfield 175, 3, 12, 1, 0) from rfl) (by decide) rfl rfl (by decide) rfl rfl rfl ?_
        obtain ⟨s22, hs22⟩ : ∃ x0, x0 = uI s18 74 (Int32.ofInt 0) := ⟨_, rfl⟩
        rw [← hs22]
        have Is22 : Bd s22 := by rw [hs22]; exact bd_I Is18 (show (0 : Int) ≤ 0 ∧ 0 ≤ 200 by first | exact ⟨by decide, by decide⟩ | omega) (by decide)
        have Fs22 := fm_I (x := Int32.ofInt 0) Gs18 (show 74 ∈ _ by decide)
        rw [← hs22] at Fs22
        have vs22 : iI s22 74 = 0 := by rw [hs22]; exact iI_u (by decide)
        have ws22_73 : iI s22 73 = iI s18 73 := by rw [hs22]; rfl
        have ws22_77 : iI s22 77 = iI s18 77 := by rw [hs22]; rfl
        have ws22_75 : iI s22 75 = iI s18 75 := by rw [hs22]; rfl
        have ws22_79 : iI s22 79 = iI s18 79 := by rw [hs22]; rfl
        have ws22_78 : iI s22 78 = iI s18 78 := by rw [hs22]; rfl
        have ws22_90 : iI s22 90 = iI s18 90 := by rw [hs22]; rfl
        have ws22_91 : iI s22 91 = iI s18 91 := by rw [hs22]; rfl
        have ws22_81 : iI s22 81 = iI s18 81 := by rw [hs22]; rfl
        have aws22_SWM : SWM s s22 := by rw [hs22]; exact aws18_SWM
        have fs22 : Fm [74] [] s18 s22 := by rw [hs22]; exact fm_I (fm_rf _ _ _) (show 74 ∈ _ by decide)
        have JRLx_s22 : RLx s22 := RLx_fm fs22 (by decide) JRLx_s18
        have JFDA_s22 : FDA B s22 := FDA_fm fs22 (by decide) JFDA_s18
        refine z_aload_n X (x := A 179) (show cdA 200 51 = some (.aload_n 0, 1, 0, 0, 0) from rfl) (List.Mem.head _) ?_
        refine z_const X (show cdA 200 52 = some (.iconst (-1), 1, 0, 0, 0) from rfl) ?_
        refine s_putI X 179 (show cdA 200 53 = some (.putfield 9, 3, 12, 3, 0) from rfl) (by decide) rfl rfl (by decide) rfl rfl rfl ?_
        obtain ⟨s23, hs23⟩ : ∃ x0, x0 = uI s22 76 (Int32.ofInt (-1)) := ⟨_, rfl⟩
        rw [← hs23]
        have Is23 : Bd s23 := by rw [hs23]; exact bd_I Is22 (show ((-1) : Int) ≤ (-1) ∧ (-1) ≤ 400 by first | exact ⟨by decide, by decide⟩ | omega) (by decide)
        have Fs23 := fm_I (x := Int32.ofInt (-1)) Fs22 (show 76 ∈ _ by decide)
        rw [← hs23] at Fs23
        have vs23 : iI s23 76 = (-1) := by rw [hs23]; exact iI_u (by decide)
        have ws23_73 : iI s23 73 = iI s22 73 := by rw [hs23]; rfl
        have ws23_74 : iI s23 74 = iI s22 74 := by rw [hs23]; rfl
        have ws23_77 : iI s23 77 = iI s22 77 := by rw [hs23]; rfl
        have ws23_75 : iI s23 75 = iI s22 75 := by rw [hs23]; rfl
        have ws23_79 : iI s23 79 = iI s22 79 := by rw [hs23]; rfl
        have ws23_78 : iI s23 78 = iI s22 78 := by rw [hs23]; rfl
        have ws23_90 : iI s23 90 = iI s22 90 := by rw [hs23]; rfl
        have ws23_91 : iI s23 91 = iI s22 91 := by rw [hs23]; rfl
        have ws23_81 : iI s23 81 = iI s22 81 := by rw [hs23]; rfl
        have aws23_SWM : SWM s s23 := by rw [hs23]; exact aws22_SWM
        have fs23 : Fm [76] [] s22 s23 := by rw [hs23]; exact fm_I (fm_rf _ _ _) (show 76 ∈ _ by decide)
        have JRLx_s23 : RLx s23 := RLx_fm fs23 (by decide) JRLx_s22
        have JFDA_s23 : FDA B s23 := FDA_fm fs23 (by decide) JFDA_s22
        refine z_aload_n X (x := A 179) (show cdA 200 56 = some (.aload_n 0, 1, 0, 0, 0) from rfl) (List.Mem.head _) ?_
        refine z_getI X 179 (show cdA 200 57 = some (.getfield 233, 3, 12, 22, 0) from rfl) (by decide) rfl rfl ?_
        have b24 : (0 : Int) ≤ iI s23 90 ∧ iI s23 90 ≤ 12 := Is23.1 90
        refine z_bipush X (show cdA 200 60 = some (.bipush 12, 2, 0, 0, 12) from rfl) ?_
        refine z_icmp_ne X (t := 67) (show cdA 200 62 = some (.if_icmp .ne 5, 3, 1, 0, 0) from rfl) (by decide) (rng_to _) (by decide) (fun g25 => ?_) (fun g25 => ?_)
        ·
          refine z_aload_n X (x := A 179) (show cdA 200 67 = some (.aload_n 0, 1, 0, 0, 0) from rfl) (List.Mem.head _) ?_
          refine z_load_n X (x := x) (show cdA 200 68 = some (.iload_n 1, 1, 0, 0, 0) from rfl) (List.Mem.tail _ (List.Mem.head _)) ?_
          refine z_callV X 179 (rm := rmN 197) (As := [.int (Int32.ofInt x)]) (st := []) (show cdA 200 69 = some (.invokevirtual 236, 3, 197, 0, 0) from rfl) rfl (by decide) rfl (by rw [E.1, E.2.1, E.2.2.1]; exact k_beginText2 G Is23 (by first | exact ⟨oq_17aafd1d g21 hps18 he17 hps14 vs10, oq_805e9ec4 g21 hps18 he17 hps14 he13 vs10⟩ | omega)) ⟨by rw [E.2.2.2]; exact (show (rmN 197).frames + 1 ≤ (rmN 200).frames by decide), by rw [E.2.2.2]; exact (show 8 + (mNL (miB 197) + 11) + (rmN 197).locals ≤ (rmN 200).locals by decide), by rw [E.2.2.2]; exact (show 0 + (rmN 197).cells ≤ (rmN 200).cells by decide), by rw [E.2.2.2]; exact (show 0 + (rmN 197).slots ≤ (rmN 200).slots by decide)⟩ (Nat.le_of_ble_eq_true rfl) (fun vv s26 hq => ?_) (fun ee s26 hq => ?_)
          rotate_left
          · obtain ⟨Is26, Fs26, hv, hps26⟩ := hq; cases hv
          obtain ⟨Is26, Fs26, hv, hps26⟩ := hq
          cases hv
          have Gs26 := fm_ts Fs23 Fs26 (by decide) (by decide)
          have JRLx_s26 : RLx s26 := RLx_fm Fs26 (by decide) JRLx_s23
          have JFDA_s26 : FDA B s26 := FDA_fm Fs26 (by decide) JFDA_s23
          have ws26_73 : iI s26 73 = iI s23 73 := fm_i Fs26 (by decide)
          have ws26_74 : iI s26 74 = iI s23 74 := fm_i Fs26 (by decide)
          have b28 : (0 : Int) ≤ iI s26 77 ∧ iI s26 77 ≤ 400 := Is26.1 77
          have b29 : (0 : Int) ≤ iI s26 75 ∧ iI s26 75 ≤ 200 := Is26.1 75
          have b30 : (0 : Int) ≤ iI s26 79 ∧ iI s26 79 ≤ 9 := Is26.1 79
          have b31 : (0 : Int) ≤ iI s26 78 ∧ iI s26 78 ≤ 8 := Is26.1 78
          have ws26_90 : iI s26 90 = iI s23 90 := fm_i Fs26 (by decide)
          have ws26_91 : iI s26 91 = iI s23 91 := fm_i Fs26 (by decide)
          have b32 : (0 : Int) ≤ iI s26 81 ∧ iI s26 81 ≤ 1 := Is26.1 81
          have aws26_SWM : SWM s s26 := swm_ts aws23_SWM (swm_fm Fs26 (by decide))
          show WS k 72 [(0, .ref (A 179)), (1, .int (Int32.ofInt x))] [] (Wd A dT s26) 0 0
          refine z_aload_n X (x := A 179) (show cdA 200 72 = some (.aload_n 0, 1, 0, 0, 0) from rfl) (List.Mem.head _) ?_
          refine z_const X (show cdA 200 73 = some (.iconst 1, 1, 0, 0, 0) from rfl) ?_
          refine s_putI X 179 (show cdA 200 74 = some (.putfield 216, 3, 12, 27, 0) from rfl) (by decide) rfl rfl (by decide) rfl rfl rfl ?_
          obtain ⟨s33, hs33⟩ : ∃ x0, x0 = uI s26 91 (Int32.ofInt 1) := ⟨_, rfl⟩
          rw [← hs33]
          have Is33 : Bd s33 := by rw [hs33]; exact bd_I Is26 (show (0 : Int) ≤ 1 ∧ 1 ≤ 24 by first | exact ⟨by decide, by decide⟩ | omega) (by decide)
          have Fs33 := fm_I (x := Int32.ofInt 1) Gs26 (show 91 ∈ _ by decide)
          rw [← hs33] at Fs33
          have vs33 : iI s33 91 = 1 := by rw [hs33]; exact iI_u (by decide)
          have ws33_73 : iI s33 73 = iI s26 73 := by rw [hs33]; rfl
          have ws33_74 : iI s33 74 = iI s26 74 := by rw [hs33]; rfl
          have ws33_77 : iI s33 77 = iI s26 77 := by rw [hs33]; rfl
          have ws33_75 : iI s33 75 = iI s26 75 := by rw [hs33]; rfl
          have ws33_79 : iI s33 79 = iI s26 79 := by rw [hs33]; rfl
          have ws33_78 : iI s33 78 = iI s26 78 := by rw [hs33]; rfl
          have ws33_90 : iI s33 90 = iI s26 90 := by rw [hs33]; rfl
          have ws33_81 : iI s33 81 = iI s26 81 := by rw [hs33]; rfl
          have aws33_SWM : SWM s s33 := by rw [hs33]; exact aws26_SWM
          have fs33 : Fm [91] [] s26 s33 := by rw [hs33]; exact fm_I (fm_rf _ _ _) (show 91 ∈ _ by decide)
          have JRLx_s33 : RLx s33 := RLx_fm fs33 (by decide) JRLx_s26
          have JFDA_s33 : FDA B s33 := FDA_fm fs33 (by decide) JFDA_s26
          refine z_aload_n X (x := A 179) (show cdA 200 77 = some (.aload_n 0, 1, 0, 0, 0) from rfl) (List.Mem.head _) ?_
          refine s_getR X 179 (show cdA 200 78 = some (.getfield 44, 3, 12, 26, 0) from rfl) (by decide) rfl rfl ?_
          refine z_const X (show cdA 200 81 = some (.iconst 0, 1, 0, 0, 0) from rfl) ?_
          refine z_aload_n X (x := A 179) (show cdA 200 82 = some (.aload_n 0, 1, 0, 0, 0) from rfl) (List.Mem.head _) ?_
          refine z_const X (show cdA 200 83 = some (.iconst 0, 1, 0, 0, 0) from rfl) ?_
          refine z_bipush X (show cdA 200 84 = some (.bipush 127, 2, 0, 0, 127) from rfl) ?_
          have JFs33 : FDB B x s33 := ⟨fda_n JFDA_s33 (by omega) (by omega), by omega, by omega⟩
          refine z_callV X 179 (rm := rmN 196) (As := [.int (Int32.ofInt 0), .int (Int32.ofInt 127)]) (st := [.int (Int32.ofInt 0), .ref (A 188)]) (show cdA 200 86 = some (.invokevirtual 219, 3, 196, 0, 0) from rfl) rfl (by decide) rfl (by rw [E.1, E.2.1, E.2.2.1]; exact k_number2 G Is33 JFs33 (by first | exact ⟨by decide, by decide⟩ | omega) (by first | exact ⟨by decide, by decide⟩ | omega) (by first | exact oq_c2d9d76f ws33_77 hps26.2.1 | omega)) ⟨by rw [E.2.2.2]; exact (show (rmN 196).frames + 1 ≤ (rmN 200).frames by decide), by rw [E.2.2.2]; exact (show 8 + (mNL (miB 196) + 11) + (rmN 196).locals ≤ (rmN 200).locals by decide), by rw [E.2.2.2]; exact (show 0 + (rmN 196).cells ≤ (rmN 200).cells by decide), by rw [E.2.2.2]; exact (show 0 + (rmN 196).slots ≤ (rmN 200).slots by decide)⟩ (Nat.le_of_ble_eq_true rfl) (fun vv s34 hq => ?_) (fun ee s34 hq => ?_)
          rotate_left
          · obtain ⟨Is34, Fs34, JFDB_s34, e35, hv, hrs34, hps34⟩ := hq; cases hv
          obtain ⟨Is34, Fs34, JFDB_s34, e35, hv, hrs34, hps34⟩ := hq
          cases hv
          have Gs34 := fm_ts Fs33 Fs34 (by decide) (by decide)
          have JRLx_s34 : RLx s34 := RLx_fm Fs34 (by decide) JRLx_s33
          have JFDA_s34 : FDA B s34 := FDA_fm Fs34 (by decide) JFDA_s33
          have JFDB_s34 : FDB B x s34 := FDB_fm Fs34 (by decide) JFs33
          have ws34_73 : iI s34 73 = iI s33 73 := fm_i Fs34 (by decide)
          have ws34_74 : iI s34 74 = iI s33 74 := fm_i Fs34 (by decide)
          have b36 : (0 : Int) ≤ iI s34 77 ∧ iI s34 77 ≤ 400 := Is34.1 77
          have ws34_75 : iI s34 75 = iI s33 75 := fm_i Fs34 (by decide)
          have b37 : (0 : Int) ≤ iI s34 79 ∧ iI s34 79 ≤ 9 := Is34.1 79
          have ws34_78 : iI s34 78 = iI s33 78 := fm_i Fs34 (by decide)
          have ws34_90 : iI s34 90 = iI s33 90 := fm_i Fs34 (by decide)
          have ws34_91 : iI s34 91 = iI s33 91 := fm_i Fs34 (by decide)
          have ws34_81 : iI s34 81 = iI s33 81 := fm_i Fs34 (by decide)
          have aws34_SWM : SWM s s34 := swm_ts aws33_SWM (swm_fm Fs34 (by decide))
          show WS k 89 [(0, .ref (A 179)), (1, .int (Int32.ofInt x))] [.int (Int32.ofInt e35), .int (Int32.ofInt 0), .ref (A 188)] (Wd A dT s34) 0 0
          refine z_ast X 188 (show cdA 200 89 = some (.iastore, 1, 0, 0, 0) from rfl) (by decide) rfl (by decide) (show 0 < 24 by decide) (by decide) ?_
          obtain ⟨s38, hs38⟩ : ∃ x0, x0 = uC s34 165 (0 : Int).toNat (Int32.ofInt e35) := ⟨_, rfl⟩
          rw [← hs38]
          have Is38 : Bd s38 := by rw [hs38]; exact bd_C Is34 (show ((-2147483648) : Int) ≤ e35 ∧ e35 ≤ 2147483647 by omega) hrs34
          have Fs38 := fm_C (i := (0 : Int).toNat) (x := Int32.ofInt e35) Gs34 (show 165 ∈ _ by decide)
          rw [← hs38] at Fs38
          have ws38_73 : iI s38 73 = iI s34 73 := by rw [hs38]; rfl
          have ws38_74 : iI s38 74 = iI s34 74 := by rw [hs38]; rfl
          have ws38_77 : iI s38 77 = iI s34 77 := by rw [hs38]; rfl
          have ws38_75 : iI s38 75 = iI s34 75 := by rw [hs38]; rfl
          have ws38_79 : iI s38 79 = iI s34 79 := by rw [hs38]; rfl
          have ws38_78 : iI s38 78 = iI s34 78 := by rw [hs38]; rfl
          have ws38_90 : iI s38 90 = iI s34 90 := by rw [hs38]; rfl
          have ws38_91 : iI s38 91 = iI s34 91 := by rw [hs38]; rfl
          have ws38_81 : iI s38 81 = iI s34 81 := by rw [hs38]; rfl
          have aws38_SWM : SWM s s38 := swm_ts aws34_SWM (swm_fm (L := []) (M := [165]) (by rw [hs38]; exact fm_C (fm_rf _ _ _) (List.Mem.head _)) (by decide))
          have fs38 : Fm [] [165] s34 s38 := by rw [hs38]; exact fm_C (fm_rf _ _ _) (show 165 ∈ _ by decide)
          have JRLx_s38 : RLx s38 := RLx_fm fs38 (by decide) JRLx_s34
          have JFDA_s38 : FDA B s38 := FDA_fm fs38 (by decide) JFDA_s34
          have JFDB_s38 : FDB B x s38 := FDB_fm fs38 (by decide) JFDB_s34
          refine z_aload_n X (x := A 179) (show cdA 200 90 = some (.aload_n 0, 1, 0, 0, 0) from rfl) (List.Mem.head _) ?_
          have JFs38 : FDB B x s38 := ⟨fda_n JFDA_s38 (by omega) (by omega), by omega, by omega⟩
          refine z_callV X 179 (rm := rmN 193) (As := []) (st := []) (show cdA 200 91 = some (.invokevirtual 197, 3, 193, 0, 0) from rfl) rfl (by decide) rfl (by rw [E.1, E.2.1, E.2.2.1]; exact k_blanks2 G Is38 JFs38 (by omega)) ⟨by rw [E.2.2.2]; exact (show (rmN 193).frames + 1 ≤ (rmN 200).frames by decide), by rw [E.2.2.2]; exact (show 8 + (mNL (miB 193) + 11) + (rmN 193).locals ≤ (rmN 200).locals by decide), by rw [E.2.2.2]; exact (show 0 + (rmN 193).cells ≤ (rmN 200).cells by decide), by rw [E.2.2.2]; exact (show 0 + (rmN 193).slots ≤ (rmN 200).slots by decide)⟩ (Nat.le_of_ble_eq_true rfl) (fun vv s39 hq => ?_) (fun ee s39 hq => ?_)
          rotate_left
          · obtain ⟨Is39, Fs39, JFDB_s39, hv, hps39⟩ := hq; cases hv
          obtain ⟨Is39, Fs39, JFDB_s39, hv, hps39⟩ := hq
          cases hv
          have Gs39 := fm_ts Fs38 Fs39 (by decide) (by decide)
          have JRLx_s39 : RLx s39 := RLx_fm Fs39 (by decide) JRLx_s38
          have JFDA_s39 : FDA B s39 := FDA_fm Fs39 (by decide) JFDA_s38
          have JFDB_s39 : FDB B x s39 := FDB_fm Fs39 (by decide) JFs38
          have ws39_73 : iI s39 73 = iI s38 73 := fm_i Fs39 (by decide)
          have ws39_74 : iI s39 74 = iI s38 74 := fm_i Fs39 (by decide)
          have b41 : (0 : Int) ≤ iI s39 77 ∧ iI s39 77 ≤ 400 := Is39.1 77
          have ws39_75 : iI s39 75 = iI s38 75 := fm_i Fs39 (by decide)
          have ws39_79 : iI s39 79 = iI s38 79 := fm_i Fs39 (by decide)
          have ws39_78 : iI s39 78 = iI s38 78 := fm_i Fs39 (by decide)
          have ws39_90 : iI s39 90 = iI s38 90 := fm_i Fs39 (by decide)
          have ws39_91 : iI s39 91 = iI s38 91 := fm_i Fs39 (by decide)
          have ws39_81 : iI s39 81 = iI s38 81 := fm_i Fs39 (by decide)
          have aws39_SWM : SWM s s39 := swm_ts aws38_SWM (swm_fm Fs39 (by decide))
          show WS k 94 [(0, .ref (A 179)), (1, .int (Int32.ofInt x))] [] (Wd A dT s39) 0 0
          refine WS_lv (lv := [(0, .ref (A 179)), (1, .int (Int32.ofInt x))]) (List.forall_mem_cons.mpr ⟨(List.Mem.head _), (List.forall_mem_cons.mpr ⟨(List.Mem.tail _ (List.Mem.head _)), (fun q h => absurd h List.not_mem_nil)⟩)⟩) ?_
          have hnu : NUR B x 0 0 127 e35 0 (iI s34 79) (iI s34 77) := by
            have z := hps34.1
            rwa [show iI s33 77 = 0 by omega, show iI s33 79 = 0 by omega] at z
          have hnv := nur_v hnu
          have hD43 : TDF s39 := fun hz i hi => by
            have e0 : iI s39 91 = 1 := by omega
            have e1 : i = 0 := by omega
            subst e1
            rw [fm_c Fs39 (by decide), hs38]
            show 0 ≤ iC (uC s34 165 (0 : Int).toNat (Int32.ofInt e35)) 165 (0 : Int).toNat ∧ iC (uC s34 165 (0 : Int).toNat (Int32.ofInt e35)) 165 (0 : Int).toNat ≤ 127
            rw [iC_u ⟨by omega, by omega⟩]
            omega
          have hW44 : WMQ B x s39 := wm_0 hnu (by omega) (by rw [hps39.1, show iI s38 77 = iI s34 77 by omega]) (by omega) (ag_sam (s := s38) (by rw [hs38]; exact ag_u1 (by omega) (by omega)) (sam_fm Fs39 (by decide)) (by omega))
          refine L94 ((400 - iI s39 77 + (9 - iI s39 79) : Int).toNat + 1) s39 x Is39 Gs39 JRLx_s39 JFDA_s39 ⟨⟨hD43, hW44⟩, aws39_SWM⟩ (by first | exact ⟨oq_650b79d5 g21 hps18 he17 hps14 he13 ws10_74 vs10, oq_fe2501c1 ws39_74 ws38_74 ws34_74 ws33_74 ws26_74 ws23_74 vs22, oq_b4d295d9 ws39_75 hps26.1 ws38_75 ws34_75 ws33_75, by omega, by omega, oq_3a510cc0 ws39_91 ws38_91 ws34_91 vs33, oq_52ce8ea5 ws39_90 ws38_90 ws34_90 ws33_90 ws26_90 ws23_90 ws22_90 ws18_90 ws10_90, oq_5c6f094b g25 b24.2 ws23_90 ws22_90 ws18_90 ws10_90, oq_d0299403 ws39_81 ws38_81 ws34_81 ws33_81 hps26.2.2.2.2 b32.1, oq_6da3e861 ws39_73 ws38_73 ws34_73 ws33_73 ws26_73 ws23_73 ws22_73 g21 b20.1 hps18 vs10⟩ | omega) (Nat.lt_succ_self _) ?_
          intro s42  Is42 Fs42 JRLx_s42 JFDA_s42 Qs42 hs42
          have b45 : (0 : Int) ≤ iI s42 73 ∧ iI s42 73 ≤ 3 := Is42.1 73
          have b46 : (0 : Int) ≤ iI s42 74 ∧ iI s42 74 ≤ 200 := Is42.1 74
          have b47 : (0 : Int) ≤ iI s42 77 ∧ iI s42 77 ≤ 400 := Is42.1 77
          have b48 : (0 : Int) ≤ iI s42 75 ∧ iI s42 75 ≤ 200 := Is42.1 75
          have b49 : (0 : Int) ≤ iI s42 79 ∧ iI s42 79 ≤ 9 := Is42.1 79
          have b50 : (0 : Int) ≤ iI s42 78 ∧ iI s42 78 ≤ 8 := Is42.1 78
          have b51 : (0 : Int) ≤ iI s42 90 ∧ iI s42 90 ≤ 12 := Is42.1 90
          have b52 : (0 : Int) ≤ iI s42 91 ∧ iI s42 91 ≤ 24 := Is42.1 91
          have b53 : (0 : Int) ≤ iI s42 81 ∧ iI s42 81 ≤ 1 := Is42.1 81
          have qa54 := Qs42.1
          have qw55 := Qs42.2
          have hTDF : TDF s42 := qa54.1
          refine z_aload_n X (x := A 179) (show cdA 200 123 = some (.aload_n 0, 1, 0, 0, 0) from rfl) (List.Mem.head _) ?_
          refine z_aload_n X (x := A 179) (show cdA 200 124 = some (.aload_n 0, 1, 0, 0, 0) from rfl) (List.Mem.head _) ?_
          refine z_getI X 179 (show cdA 200 125 = some (.getfield 194, 3, 12, 7, 0) from rfl) (by decide) rfl rfl ?_
          have b56 : ((-1) : Int) ≤ iI s42 80 ∧ iI s42 80 ≤ 400 := Is42.1 80
          refine s_putI X 179 (show cdA 200 128 = some (.putfield 9, 3, 12, 3, 0) from rfl) (by decide) rfl rfl (by decide) rfl rfl rfl ?_
          obtain ⟨s57, hs57⟩ : ∃ x0, x0 = uI s42 76 (Int32.ofInt (iI s42 80)) := ⟨_, rfl⟩
          rw [← hs57]
          have Is57 : Bd s57 := by rw [hs57]; exact bd_I Is42 (show ((-1) : Int) ≤ (iI s42 80) ∧ (iI s42 80) ≤ 400 by first | exact ⟨b56.1, b56.2⟩ | omega) (rng_to _)
          have Fs57 := fm_I (x := Int32.ofInt (iI s42 80)) Fs42 (show 76 ∈ _ by decide)
          rw [← hs57] at Fs57
          have vs57 : iI s57 76 = (iI s42 80) := by rw [hs57]; exact iI_u (rng_to _)
          have ws57_73 : iI s57 73 = iI s42 73 := by rw [hs57]; rfl
          have ws57_74 : iI s57 74 = iI s42 74 := by rw [hs57]; rfl
          have ws57_77 : iI s57 77 = iI s42 77 := by rw [hs57]; rfl
          have ws57_75 : iI s57 75 = iI s42 75 := by rw [hs57]; rfl
          have ws57_79 : iI s57 79 = iI s42 79 := by rw [hs57]; rfl
          have ws57_78 : iI s57 78 = iI s42 78 := by rw [hs57]; rfl
          have ws57_90 : iI s57 90 = iI s42 90 := by rw [hs57]; rfl
          have ws57_91 : iI s57 91 = iI s42 91 := by rw [hs57]; rfl
          have ws57_81 : iI s57 81 = iI s42 81 := by rw [hs57]; rfl
          have aws57_SWM : SWM s s57 := by rw [hs57]; exact qw55
          have fs57 : Fm [76] [] s42 s57 := by rw [hs57]; exact fm_I (fm_rf _ _ _) (show 76 ∈ _ by decide)
          have JRLx_s57 : RLx s57 := RLx_fm fs57 (by decide) JRLx_s42
          have JFDA_s57 : FDA B s57 := FDA_fm fs57 (by decide) JFDA_s42
          have hTDF2 : TDF s57 := fun z => TD_fm fs57 (by decide) (hTDF (by omega))
          refine z_aload_n X (x := A 179) (show cdA 200 131 = some (.aload_n 0, 1, 0, 0, 0) from rfl) (List.Mem.head _) ?_
          refine z_getI X 179 (show cdA 200 132 = some (.getfield 191, 3, 12, 6, 0) from rfl) (by decide) rfl rfl ?_
          have b58 : (0 : Int) ≤ iI s57 79 ∧ iI s57 79 ≤ 9 := Is57.1 79
          refine z_if_eq X (t := 146) (show cdA 200 135 = some (.ifCond .eq 11, 3, 0, 0, 0) from rfl) (by decide) (rng_to _) (fun g59 => ?_) (fun g59 => ?_)
          ·
            have JTD_s57 : TD s57 := hTDF2 (by omega)
            have hyes : ∃ a, parseT B x = some a := by obtain ⟨a9, z9, -⟩ := wm_end qa54.2 (by omega) (by omega); exact ⟨a9, z9⟩
            have hyw : ∃ a, parseT B x = some a ∧ AGx 165 91 a s57 ∧ (1 ≤ a.1 ∧ a.1 ≤ 24) := by obtain ⟨a9, z1, z2, z3⟩ := wm_end qa54.2 (by omega) (by omega); exact ⟨a9, z1, ag_sam z2 (sam_fm fs57 (by decide)) (by omega), z3⟩
            refine z_aload_n X (x := A 179) (show cdA 200 146 = some (.aload_n 0, 1, 0, 0, 0) from rfl) (List.Mem.head _) ?_
            refine s_getR X 179 (show cdA 200 147 = some (.getfield 35, 3, 12, 23, 0) from rfl) (by decide) rfl rfl ?_
            refine z_aload_n X (x := A 179) (show cdA 200 150 = some (.aload_n 0, 1, 0, 0, 0) from rfl) (List.Mem.head _) ?_
            refine z_getI X 179 (show cdA 200 151 = some (.getfield 233, 3, 12, 22, 0) from rfl) (by decide) rfl rfl ?_
            have b60 : (0 : Int) ≤ iI s57 90 ∧ iI s57 90 ≤ 12 := Is57.1 90
            refine z_aload_n X (x := A 179) (show cdA 200 154 = some (.aload_n 0, 1, 0, 0, 0) from rfl) (List.Mem.head _) ?_
            refine z_getI X 179 (show cdA 200 155 = some (.getfield 216, 3, 12, 27, 0) from rfl) (by decide) rfl rfl ?_
            have b61 : (0 : Int) ≤ iI s57 91 ∧ iI s57 91 ≤ 24 := Is57.1 91
            refine z_ast X 185 (show cdA 200 158 = some (.iastore, 1, 0, 0, 0) from rfl) (by decide) rfl (by first | exact b60.1 | omega) (show (iI s57 90) < 12 by first | exact oq_e2284db0 ws57_90 hs42.2.2.2.2.2.2.1 hs42.2.2.2.2.2.2.2.1 | omega) (by decide) ?_
            obtain ⟨s62, hs62⟩ : ∃ x0, x0 = uC s57 162 ((iI s57 90)).toNat (Int32.ofInt (iI s57 91)) := ⟨_, rfl⟩
            rw [← hs62]
            have Is62 : Bd s62 := by rw [hs62]; exact bd_C Is57 (show (0 : Int) ≤ (iI s57 91) ∧ (iI s57 91) ≤ 24 by first | exact ⟨b61.1, b61.2⟩ | omega) (rng_to _)
            have Fs62 := fm_C (i := ((iI s57 90)).toNat) (x := Int32.ofInt (iI s57 91)) Fs57 (show 162 ∈ _ by decide)
            rw [← hs62] at Fs62
            have ws62_73 : iI s62 73 = iI s57 73 := by rw [hs62]; rfl
            have ws62_74 : iI s62 74 = iI s57 74 := by rw [hs62]; rfl
            have ws62_77 : iI s62 77 = iI s57 77 := by rw [hs62]; rfl
            have ws62_75 : iI s62 75 = iI s57 75 := by rw [hs62]; rfl
            have ws62_79 : iI s62 79 = iI s57 79 := by rw [hs62]; rfl
            have ws62_78 : iI s62 78 = iI s57 78 := by rw [hs62]; rfl
            have ws62_90 : iI s62 90 = iI s57 90 := by rw [hs62]; rfl
            have ws62_91 : iI s62 91 = iI s57 91 := by rw [hs62]; rfl
            have ws62_81 : iI s62 81 = iI s57 81 := by rw [hs62]; rfl
            have fs62 : Fm [] [162] s57 s62 := by rw [hs62]; exact fm_C (fm_rf _ _ _) (show 162 ∈ _ by decide)
            have JFDA_s62 : FDA B s62 := FDA_fm fs62 (by decide) JFDA_s57
            have JTD_s62 : TD s62 := TD_fm fs62 (by decide) JTD_s57
            have es_s62 : iI s57 90 = iI s 90 := by omega
            have JRLx_s62 : RLx s62 := by rw [hs62]; exact RLx_m JRLx_s57 (by omega)
            have vm_s62 : iC s62 162 (iI s 90 : Int).toNat = iI s57 91 := by rw [hs62, es_s62, iC_u ⟨by omega, by omega⟩]
            have hWf : WFM B x (iI s 90) 0 s s62 := wfm_0 hyw aws57_SWM (by omega) rfl (by rw [hs62, es_s62]) (by omega)
            refine z_const X (show cdA 200 159 = some (.iconst 0, 1, 0, 0, 0) from rfl) ?_
            refine z_store_n X (lv' := [(2, .int (Int32.ofInt 0)), (0, .ref (A 179)), (1, .int (Int32.ofInt x))]) (show cdA 200 160 = some (.istore_n 2, 1, 0, 0, 0) from rfl) (by decide) (fun _ h => h) ?_
            refine WS_lv (lv := [(0, .ref (A 179)), (1, .int (Int32.ofInt x)), (2, .int (Int32.ofInt 0))]) (List.forall_mem_cons.mpr ⟨(List.Mem.tail _ (List.Mem.head _)), (List.forall_mem_cons.mpr ⟨(List.Mem.tail _ (List.Mem.tail _ (List.Mem.head _))), (List.forall_mem_cons.mpr ⟨(List.Mem.head _), (fun q h => absurd h List.not_mem_nil)⟩)⟩)⟩) ?_
            refine L161 ((128 - 0 : Int).toNat + 1) s62 x 0 Is62 Fs62 JRLx_s62 JFDA_s62 ⟨⟨JTD_s62, JRLx_s62, fun i _ h => absurd h (by omega)⟩, ⟨hWf, fun j hj => absurd hj (by omega)⟩⟩ (by first | exact ⟨And.intro (hs42.1.1) (And.intro (hs42.1.2.1) (hs42.1.2.2)), oq_7fe879e0 ws62_74 ws57_74 hs42.2.1 b46.1, oq_48a46d4a ws62_91 ws57_91 hs42.2.2.2.2.2.1, oq_1aa5be9e ws62_90 es_s62, hs42.2.2.2.2.2.2.2.1, by decide, by decide, oq_f6b042d5 ws62_91 vm_s62, oq_7fe879e0 ws62_73 ws57_73 hs42.2.2.2.2.2.2.2.2.2.1 b45.1⟩ | omega) (Nat.lt_succ_self _) ?_
            intro s63 x64 Is63 Fs63 JRLx_s63 JFDA_s63 Qs63 hs63
            have b65 : (0 : Int) ≤ iI s63 73 ∧ iI s63 73 ≤ 3 := Is63.1 73
            have b66 : (0 : Int) ≤ iI s63 74 ∧ iI s63 74 ≤ 200 := Is63.1 74
            have b67 : (0 : Int) ≤ iI s63 77 ∧ iI s63 77 ≤ 400 := Is63.1 77
            have b68 : (0 : Int) ≤ iI s63 75 ∧ iI s63 75 ≤ 200 := Is63.1 75
            have b69 : (0 : Int) ≤ iI s63 79 ∧ iI s63 79 ≤ 9 := Is63.1 79
            have b70 : (0 : Int) ≤ iI s63 78 ∧ iI s63 78 ≤ 8 := Is63.1 78
            have b71 : (0 : Int) ≤ iI s63 90 ∧ iI s63 90 ≤ 12 := Is63.1 90
            have b72 : (0 : Int) ≤ iI s63 91 ∧ iI s63 91 ≤ 24 := Is63.1 91
            have b73 : (0 : Int) ≤ iI s63 81 ∧ iI s63 81 ≤ 1 := Is63.1 81
            have qa74 := Qs63.1
            have qw75 := Qs63.2
            refine z_const X (show cdA 200 186 = some (.iconst 0, 1, 0, 0, 0) from rfl) ?_
            refine z_store_n X (lv' := [(2, .int (Int32.ofInt 0)), (0, .ref (A 179)), (1, .int (Int32.ofInt x))]) (show cdA 200 187 = some (.istore_n 2, 1, 0, 0, 0) from rfl) (by decide) (fun _ h => h) ?_
            refine WS_lv (lv := [(0, .ref (A 179)), (1, .int (Int32.ofInt x)), (2, .int (Int32.ofInt 0))]) (List.forall_mem_cons.mpr ⟨(List.Mem.tail _ (List.Mem.head _)), (List.forall_mem_cons.mpr ⟨(List.Mem.tail _ (List.Mem.tail _ (List.Mem.head _))), (List.forall_mem_cons.mpr ⟨(List.Mem.head _), (fun q h => absurd h List.not_mem_nil)⟩)⟩)⟩) ?_
            refine L188 ((24 - 0 : Int).toNat + 1) s63 x 0 Is63 Fs63 JRLx_s63 JFDA_s63 ⟨⟨qa74.1, qa74.2.1, fun i hi _ => qa74.2.2 i hi (by omega)⟩, ⟨qw75.1, lfp_0 qw75.2 (by omega)⟩⟩ (by first | exact ⟨And.intro (hs63.1.1) (And.intro (hs63.1.2.1) (hs63.1.2.2)), hs63.2.1, hs63.2.2.1, hs63.2.2.2.1, hs63.2.2.2.2.1, by decide, by decide, hs63.2.2.2.2.2.2.1, hs63.2.2.2.2.2.2.2⟩ | omega) (Nat.lt_succ_self _) ?_
            intro s76 x77 Is76 Fs76 JRLx_s76 JFDA_s76 Qs76 hs76
            have b78 : (0 : Int) ≤ iI s76 73 ∧ iI s76 73 ≤ 3 := Is76.1 73
            have b79 : (0 : Int) ≤ iI s76 74 ∧ iI s76 74 ≤ 200 := Is76.1 74
            have b80 : (0 : Int) ≤ iI s76 77 ∧ iI s76 77 ≤ 400 := Is76.1 77
            have b81 : (0 : Int) ≤ iI s76 75 ∧ iI s76 75 ≤ 200 := Is76.1 75
            have b82 : (0 : Int) ≤ iI s76 79 ∧ iI s76 79 ≤ 9 := Is76.1 79
            have b83 : (0 : Int) ≤ iI s76 78 ∧ iI s76 78 ≤ 8 := Is76.1 78
            have b84 : (0 : Int) ≤ iI s76 90 ∧ iI s76 90 ≤ 12 := Is76.1 90
            have b85 : (0 : Int) ≤ iI s76 91 ∧ iI s76 91 ≤ 24 := Is76.1 91
            have b86 : (0 : Int) ≤ iI s76 81 ∧ iI s76 81 ≤ 1 := Is76.1 81
            have qa87 := Qs76.1
            have qw88 := Qs76.2
            refine z_aload_n X (x := A 179) (show cdA 200 236 = some (.aload_n 0, 1, 0, 0, 0) from rfl) (List.Mem.head _) ?_
            refine w_dup X.1 (ax_d X (show cdA 200 237 = some (.dup, 1, 0, 0, 0) from rfl)) rfl ?_
            refine z_getI X 179 (show cdA 200 238 = some (.getfield 233, 3, 12, 22, 0) from rfl) (by decide) rfl rfl ?_
            have b89 : (0 : Int) ≤ iI s76 90 ∧ iI s76 90 ≤ 12 := Is76.1 90
            refine z_const X (show cdA 200 241 = some (.iconst 1, 1, 0, 0, 0) from rfl) ?_
            refine z_add X (show cdA 200 242 = some (.iadd, 1, 0, 0, 0) from rfl) ?_
            refine s_putI X 179 (show cdA 200 243 = some (.putfield 233, 3, 12, 22, 0) from rfl) (by decide) rfl rfl (by decide) rfl rfl rfl ?_
            obtain ⟨s90, hs90⟩ : ∃ x0, x0 = uI s76 90 (Int32.ofInt ((iI s76 90) + 1)) := ⟨_, rfl⟩
            rw [← hs90]
            have Is90 : Bd s90 := by rw [hs90]; exact bd_I Is76 (show (0 : Int) ≤ ((iI s76 90) + 1) ∧ ((iI s76 90) + 1) ≤ 12 by first | exact ⟨oq_54f49eb5 b89.1, oq_6a44be7e hs76.2.2.2.1 hs76.2.2.2.2.1⟩ | omega) ⟨by first | exact oq_74de1e16 b89.1 | omega, by first | exact oq_76a8a5b7 b89.2 | omega⟩
            have Fs90 := fm_I (x := Int32.ofInt ((iI s76 90) + 1)) Fs76 (show 90 ∈ _ by decide)
            rw [← hs90] at Fs90
            have vs90 : iI s90 90 = ((iI s76 90) + 1) := by rw [hs90]; exact iI_u ⟨by first | exact oq_74de1e16 b89.1 | omega, by first | exact oq_76a8a5b7 b89.2 | omega⟩
            have ws90_73 : iI s90 73 = iI s76 73 := by rw [hs90]; rfl
            have ws90_74 : iI s90 74 = iI s76 74 := by rw [hs90]; rfl
            have ws90_77 : iI s90 77 = iI s76 77 := by rw [hs90]; rfl
            have ws90_75 : iI s90 75 = iI s76 75 := by rw [hs90]; rfl
            have ws90_79 : iI s90 79 = iI s76 79 := by rw [hs90]; rfl
            have ws90_78 : iI s90 78 = iI s76 78 := by rw [hs90]; rfl
            have ws90_91 : iI s90 91 = iI s76 91 := by rw [hs90]; rfl
            have ws90_81 : iI s90 81 = iI s76 81 := by rw [hs90]; rfl
            have fs90 : Fm [90] [] s76 s90 := by rw [hs90]; exact fm_I (fm_rf _ _ _) (show 90 ∈ _ by decide)
            have JFDA_s90 : FDA B s90 := FDA_fm fs90 (by decide) JFDA_s76
            have JTD_s90 : TD s90 := TD_fm fs90 (by decide) qa87.1
            have JRLx_s90 : RLx s90 := by
              rw [hs90]
              exact RLx_up qa87.2.1 rfl (by omega) (by rw [show iI s76 90 = iI s 90 by omega]; omega) (fun i hi => by rw [show iI s76 90 = iI s 90 by omega]; exact qa87.2.2 i hi (by omega))
            have hWz : WFM B x (iI s 90) 24 s s90 := by rw [hs90]; exact wfm_I (wfm_end qw88.1 (by omega))
            have hLz : LFP B x (iI s 90) 24 s90 := by rw [hs90]; exact lfp_I (lfp_end qw88.1 qw88.2 (by omega))
            refine z_aload_n X (x := A 179) (show cdA 200 246 = some (.aload_n 0, 1, 0, 0, 0) from rfl) (List.Mem.head _) ?_
            refine z_getI X 179 (show cdA 200 247 = some (.getfield 233, 3, 12, 22, 0) from rfl) (by decide) rfl rfl ?_
            have b91 : (0 : Int) ≤ iI s90 90 ∧ iI s90 90 ≤ 12 := Is90.1 90
            refine z_const X (show cdA 200 250 = some (.iconst 1, 1, 0, 0, 0) from rfl) ?_
            refine z_sub X (show cdA 200 251 = some (.isub, 1, 0, 0, 0) from rfl) ?_
            exact w_iret X.1 q hRt rfl (ax_d X (show cdA 200 252 = some (.ireturn, 1, 0, 0, 0) from rfl)) (Nat.zero_le _) (Nat.zero_le _) ⟨_, rfl, Is90, Fs90, JRLx_s90, JFDA_s90, ((iI s90 90) - 1), rfl, ⟨by first | exact oq_c1e961c7 b91.1 | omega, by first | exact oq_d526ebd3 b91.2 | omega⟩, ⟨Or.inl ⟨⟨by first | exact hs76.1.1 | omega, by first | exact hs76.1.2.1 | omega, by first | exact hs76.1.2.2 | omega, by first | exact oq_333640b7 ws90_74 hs76.2.1 b79.1 | omega, by first | exact oq_333640b7 ws90_73 hs76.2.2.2.2.2.2.2.2.1 b78.1 | omega⟩, Or.inr ⟨by omega, Or.inr ⟨hyes, by omega⟩⟩⟩, Or.inr ⟨by omega, hWz, hLz⟩⟩⟩
          ·
            refine z_aload_n X (x := A 179) (show cdA 200 138 = some (.aload_n 0, 1, 0, 0, 0) from rfl) (List.Mem.head _) ?_
            refine z_getI X 179 (show cdA 200 139 = some (.getfield 191, 3, 12, 6, 0) from rfl) (by decide) rfl rfl ?_
            have b92 : (0 : Int) ≤ iI s57 79 ∧ iI s57 79 ≤ 9 := Is57.1 79
            refine z_bipush X (show cdA 200 142 = some (.bipush 10, 2, 0, 0, 10) from rfl) ?_
            refine z_sub X (show cdA 200 144 = some (.isub, 1, 0, 0, 0) from rfl) ?_
            exact w_iret X.1 q hRt rfl (ax_d X (show cdA 200 145 = some (.ireturn, 1, 0, 0, 0) from rfl)) (Nat.zero_le _) (Nat.zero_le _) ⟨_, rfl, Is57, Fs57, JRLx_s57, JFDA_s57, ((iI s57 79) - 10), rfl, ⟨by first | exact oq_d3c9ade5 b92.1 | omega, by first | exact oq_71609f9f b92.2 | omega⟩, ⟨Or.inl ⟨⟨by first | exact hs42.1.1 | omega, by first | exact hs42.1.2.1 | omega, by first | exact hs42.1.2.2 | omega, by first | exact oq_333640b7 ws57_74 hs42.2.1 b46.1 | omega, by first | exact oq_333640b7 ws57_73 hs42.2.2.2.2.2.2.2.2.2.1 b45.1 | omega⟩, Or.inr ⟨by omega, Or.inl ⟨wm_no qa54.2 (by omega), by omega⟩⟩⟩, Or.inl ⟨by omega, aws57_SWM⟩⟩⟩
        ·
          refine z_const X (show cdA 200 65 = some (.iconst (-1), 1, 0, 0, 0) from rfl) ?_
          exact w_iret X.1 q hRt rfl (ax_d X (show cdA 200 66 = some (.ireturn, 1, 0, 0, 0) from rfl)) (Nat.zero_le _) (Nat.zero_le _) ⟨_, rfl, Is23, Fs23, JRLx_s23, JFDA_s23, (-1), rfl, (by decide), ⟨by first | exact Or.inr ⟨by omega, by omega, by omega, by omega⟩ | exact Or.inl ⟨⟨by omega, by omega, by omega, by omega, by omega⟩, Or.inl ⟨by omega, by omega⟩⟩, Or.inl ⟨by omega, aws23_SWM⟩⟩⟩
      ·
        refine z_const X (show cdA 200 44 = some (.iconst 0, 1, 0, 0, 0) from rfl) ?_
        exact w_iret X.1 q hRt rfl (ax_d X (show cdA 200 45 = some (.ireturn, 1, 0, 0, 0) from rfl)) (Nat.zero_le _) (Nat.zero_le _) ⟨_, rfl, Is18, Gs18, JRLx_s18, JFDA_s18, 0, rfl, (by decide), ⟨by first | exact Or.inr ⟨by omega, by omega, by omega, by omega⟩ | exact Or.inl ⟨⟨by omega, by omega, by omega, by omega, by omega⟩, Or.inl ⟨by omega, by omega⟩⟩, Or.inl ⟨by omega, aws18_SWM⟩⟩⟩
    refine z_if_ne X (t := 36) (show cdA 200 29 = some (.ifCond .ne 7, 3, 1, 0, 0) from rfl) (by decide) hrs14 (fun g93 => ?_) (fun g93 => ?_)
    ·
      refine z_const X (show cdA 200 36 = some (.iconst 0, 1, 0, 0, 0) from rfl) ?_
      exact N16 _ (Or.inl ⟨g93, rfl⟩)
    ·
      refine z_const X (show cdA 200 32 = some (.iconst 1, 1, 0, 0, 0) from rfl) ?_
      refine z_goto X (t := 37) (show cdA 200 33 = some (.goto 4, 3, 0, 0, 0) from rfl) (by decide) ?_
      exact N16 _ (Or.inr (⟨g93, rfl⟩))
  refine z_icmp_ge X (t := 24) (show cdA 200 14 = some (.if_icmp .ge 10, 3, 3, 0, 0) from rfl) (by decide) (rng_to _) (by decide) (fun g94 => ?_) (fun g94 => ?_)
  ·
    refine z_bipush X (show cdA 200 24 = some (.bipush 100, 2, 0, 0, 100) from rfl) ?_
    exact N12 _ (Or.inl ⟨g94, rfl⟩)
  ·
    refine z_aload_n X (x := A 179) (show cdA 200 17 = some (.aload_n 0, 1, 0, 0, 0) from rfl) (List.Mem.head _) ?_
    refine z_getI X 179 (show cdA 200 18 = some (.getfield 175, 3, 12, 1, 0) from rfl) (by decide) rfl rfl ?_
    have b95 : (0 : Int) ≤ iI s10 74 ∧ iI s10 74 ≤ 200 := Is10.1 74
    refine z_goto X (t := 26) (show cdA 200 21 = some (.goto 5, 3, 0, 0, 0) from rfl) (by decide) ?_
    exact N12 _ (Or.inr (⟨g94, b95, rfl⟩))
end M87e
