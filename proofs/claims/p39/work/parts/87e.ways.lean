theorem oq_93de823d {a0 a1 a2 : Int} (h0 : a0 ≠ 0) (h1 : ((a0 = 1 ∧ (0 ≤ a1 ∧ a1 ≤ (a2 - 1))) ∨ (a0 = 0 ∧ (a1 < 0 ∨ (a2 - 1) < a1)))) (h2 : a2 ≤ 12) : a1 < 12 := by omega
theorem oq_cdfafa20 {a0 a1 a2 : Int} (h0 : a0 ≠ 0) (h1 : ((a0 = 1 ∧ (0 ≤ a1 ∧ a1 ≤ (a2 - 1))) ∨ (a0 = 0 ∧ (a1 < 0 ∨ (a2 - 1) < a1)))) (h2 : a2 ≤ 12) : (a1 : Int).toNat < 12 := by omega
theorem oq_9a4ee189 {a0 a1 a2 a3 a4 a5 a6 a7 a8 a9 a10 : Int} (h0 : a0 = 0) (h1 : ((a0 = 1 ∧ (0 ≤ a1 ∧ a1 ≤ (a2 - 1))) ∨ (a0 = 0 ∧ (a1 < 0 ∨ (a2 - 1) < a1)))) (h2 : 0 ≤ a3) (h3 : ((0 = 1 ∧ (a4 = 0 ∧ (a3 = 1 ∧ a5 = 1))) ∨ ((0 = 0 ∨ a4 ≠ 0) ∧ (a3 = a4 ∧ ((a5 = 0 ∧ a4 = 0) ∨ (a5 = 1 ∧ a4 ≠ 0)))))) (h4 : a6 ≠ 0) (h5 : ((a6 = 1 ∧ (0 ≤ a7 ∧ a7 ≤ (a8 - 1))) ∨ (a6 = 0 ∧ (a7 < 0 ∨ (a8 - 1) < a7)))) (h6 : a8 = a9) (h7 : a4 = 0) : ((0 ≤ a7 ∧ (a7 < a9 ∧ (a3 = 0 ∧ ((0 ≤ a1 ∧ (a1 < a2 ∧ (-1) = a10)) ∨ ((a1 < 0 ∨ a2 ≤ a1) ∧ (-1) = (-1)))))) ∨ ((a7 < 0 ∨ a9 ≤ a7) ∧ a3 = 1)) := by omega
theorem oq_05d5d766 {a0 a1 a2 a3 a4 a5 a6 a7 a8 a9 a10 : Int} (h0 : a0 ≠ 0) (h1 : ((a0 = 1 ∧ (0 ≤ a1 ∧ a1 ≤ (a2 - 1))) ∨ (a0 = 0 ∧ (a1 < 0 ∨ (a2 - 1) < a1)))) (h2 : 0 ≤ a3) (h3 : ((0 = 1 ∧ (a4 = 0 ∧ (a3 = 1 ∧ a5 = 1))) ∨ ((0 = 0 ∨ a4 ≠ 0) ∧ (a3 = a4 ∧ ((a5 = 0 ∧ a4 = 0) ∨ (a5 = 1 ∧ a4 ≠ 0)))))) (h4 : a6 ≠ 0) (h5 : ((a6 = 1 ∧ (0 ≤ a7 ∧ a7 ≤ (a8 - 1))) ∨ (a6 = 0 ∧ (a7 < 0 ∨ (a8 - 1) < a7)))) (h6 : a8 = a9) (h7 : a4 = 0) : ((0 ≤ a7 ∧ (a7 < a9 ∧ (a3 = 0 ∧ ((0 ≤ a1 ∧ (a1 < a2 ∧ a10 = a10)) ∨ ((a1 < 0 ∨ a2 ≤ a1) ∧ a10 = (-1)))))) ∨ ((a7 < 0 ∨ a9 ≤ a7) ∧ a3 = 1)) := by omega
theorem oq_e1acbfd9 {a0 a1 a2 a3 a4 a5 a6 a7 : Int} (h0 : a0 ≠ 0) (h1 : ((0 = 1 ∧ (a1 = 0 ∧ (a2 = 1 ∧ a0 = 1))) ∨ ((0 = 0 ∨ a1 ≠ 0) ∧ (a2 = a1 ∧ ((a0 = 0 ∧ a1 = 0) ∨ (a0 = 1 ∧ a1 ≠ 0)))))) (h2 : a1 = 0) : ((0 ≤ a3 ∧ (a3 < a4 ∧ (a2 = 0 ∧ ((0 ≤ a5 ∧ (a5 < a6 ∧ 0 = a7)) ∨ ((a5 < 0 ∨ a6 ≤ a5) ∧ 0 = (-1)))))) ∨ ((a3 < 0 ∨ a4 ≤ a3) ∧ a2 = 1)) := by omega
theorem oq_391ffabd {a0 a1 a2 a3 : Int} (h0 : a0 = 0) (h1 : ((1 = 1 ∧ (a1 = 0 ∧ (a2 = 1 ∧ a0 = 1))) ∨ ((1 = 0 ∨ a1 ≠ 0) ∧ (a2 = a1 ∧ ((a0 = 0 ∧ a1 = 0) ∨ (a0 = 1 ∧ a1 ≠ 0)))))) (h2 : a1 = 0) : a3 < 12 := by omega
theorem oq_29b04476 {a0 a1 a2 a3 : Int} (h0 : a0 = 0) (h1 : ((1 = 1 ∧ (a1 = 0 ∧ (a2 = 1 ∧ a0 = 1))) ∨ ((1 = 0 ∨ a1 ≠ 0) ∧ (a2 = a1 ∧ ((a0 = 0 ∧ a1 = 0) ∨ (a0 = 1 ∧ a1 ≠ 0)))))) (h2 : a1 = 0) : (a3 : Int).toNat < 12 := by omega
theorem oq_823922ae {a0 a1 a2 a3 a4 a5 a6 a7 : Int} (h0 : a0 = 0) (h1 : ((1 = 1 ∧ (a1 = 0 ∧ (a2 = 1 ∧ a0 = 1))) ∨ ((1 = 0 ∨ a1 ≠ 0) ∧ (a2 = a1 ∧ ((a0 = 0 ∧ a1 = 0) ∨ (a0 = 1 ∧ a1 ≠ 0)))))) (h2 : a1 = 0) : ((0 ≤ a3 ∧ (a3 < a4 ∧ (a2 = 0 ∧ ((0 ≤ a5 ∧ (a5 < a6 ∧ (-1) = a7)) ∨ ((a5 < 0 ∨ a6 ≤ a5) ∧ (-1) = (-1)))))) ∨ ((a3 < 0 ∨ a4 ≤ a3) ∧ a2 = 1)) := by omega
theorem oq_b89ccd92 {a0 a1 a2 a3 a4 a5 a6 a7 : Int} (h0 : a0 = 0) (h1 : ((1 = 1 ∧ (a1 = 0 ∧ (a2 = 1 ∧ a0 = 1))) ∨ ((1 = 0 ∨ a1 ≠ 0) ∧ (a2 = a1 ∧ ((a0 = 0 ∧ a1 = 0) ∨ (a0 = 1 ∧ a1 ≠ 0)))))) (h2 : a1 = 0) : ((0 ≤ a3 ∧ (a3 < a4 ∧ (a2 = 0 ∧ ((0 ≤ a5 ∧ (a5 < a6 ∧ a7 = a7)) ∨ ((a5 < 0 ∨ a6 ≤ a5) ∧ a7 = (-1)))))) ∨ ((a3 < 0 ∨ a4 ≤ a3) ∧ a2 = 1)) := by omega
theorem oq_0fb12e2b {a0 a1 a2 a3 a4 a5 a6 a7 a8 a9 : Int} (h0 : a0 ≠ 0) (h1 : ((1 = 1 ∧ (a1 = 0 ∧ (a2 = 1 ∧ a0 = 1))) ∨ ((1 = 0 ∨ a1 ≠ 0) ∧ (a2 = a1 ∧ ((a0 = 0 ∧ a1 = 0) ∨ (a0 = 1 ∧ a1 ≠ 0)))))) (h2 : a3 = 0) (h3 : ((a3 = 1 ∧ (0 ≤ a4 ∧ a4 ≤ (a5 - 1))) ∨ (a3 = 0 ∧ (a4 < 0 ∨ (a5 - 1) < a4)))) (h4 : a5 = a6) (h5 : a1 = 0) : ((0 ≤ a4 ∧ (a4 < a6 ∧ (a2 = 0 ∧ ((0 ≤ a7 ∧ (a7 < a8 ∧ 0 = a9)) ∨ ((a7 < 0 ∨ a8 ≤ a7) ∧ 0 = (-1)))))) ∨ ((a4 < 0 ∨ a6 ≤ a4) ∧ a2 = 1)) := by omega
/-! Ways: what class and model keep of them -/
/-- cells copied from array b0 to b1 -/
def CPY (b0 b1 n1 : Nat) (sp dp n : Int) (s t : PS) : Prop := ∀ j : Nat, j < n1 → iC t b1 j = if dp.toNat ≤ j ∧ j < dp.toNat + n.toNat then iC s b0 (sp.toNat + (j - dp.toNat)) else iC s b1 j
section ZC
variable {k : kx_T} {mn pc : Nat} {A : Nat → Nat} {dT : Nat → ClassId} {s : PS} {lv : List (Nat × Value)} {st : List Value} {ce sl a : Nat} {z : Int}
theorem z_copyF (X : AX k mn dT) (I : Bd s) (c0 c1 : Nat) {idx n0 n1 b0 b1 : Nat} {sp dp n : Int} (h : cdA mn pc = some (.invokestatic idx, 3, a, 5, z)) (hc0 : c0 < 518) (hc1 : c1 < 518) (hb0 : bsS c0 = .inl (0, n0, .inr (0, 0, b0))) (hb1 : bsS c1 = .inl (0, n1, .inr (0, 0, b1))) (hs : 0 ≤ sp ∧ sp ≤ 100000) (hd : 0 ≤ dp ∧ dp ≤ 100000) (hn : 0 ≤ n ∧ n ≤ 100000) (h4 : sp + n ≤ n0) (h5 : dp + n ≤ n1) (hA : (bA b1).1 ≤ (bA b0).1 ∧ (bA b0).2.1 ≤ (bA b1).2.1 ∧ (bA b0).2.2 = n0 ∧ (bA b1).2.2 = n1)
    (hf : 1 ≤ (kR k).frames) (hlo : (st.map fun v => v.category).sum + 40 ≤ (kR k).locals) (g : ∀ t : PS, Bd t → Fm [] [b1] s t → CPY b0 b1 n1 sp dp n s t → WS k (pc + 3) lv st (Wd A dT t) ce sl) : WS k pc lv (.int (Int32.ofInt n) :: .int (Int32.ofInt dp) :: .ref (A c1) :: .int (Int32.ofInt sp) :: .ref (A c0) :: st) (Wd A dT s) ce sl := by
  have hq := (ax_r X h).2.2
  rcases hq with ⟨-, w1, w2, w3, w4⟩ | ⟨q, -⟩ | ⟨q, -⟩ | ⟨q, -⟩
  · obtain ⟨m1, m2⟩ := nat_of hs.1 hs.2
    obtain ⟨m3, m4⟩ := nat_of hd.1 hd.2
    obtain ⟨m5, m6⟩ := nat_of hn.1 hn.2
    have w40 : nativeFrameWords "java/lang/System" "arraycopy" 5 + 11 ≤ 40 := by decide +kernel
    refine w_copyi X.1 (q0 := c0) (q1 := c1) (by rw [X.2.1.2.1]; exact w1) w2 w3 w4 (get_C (Or.inl rfl) hc0 hb0) (get_C (Or.inl rfl) hc1 hb1) (X.2.2.1 0) m1 m3 m5 (by rw [m2, m6]; omega) (by rw [m4, m6]; omega) hf (by omega) (ax_d X h) ?_
    rw [m2, m4, m6]
    rw [put_stC hc1 hb1 (fun j hj => by
      unfold va_cpy
      rw [if_neg (by omega)]
      show (if j < n1 then gC s b1 j else 0) = 0
      rw [if_neg (by omega)])]
    refine g _ ⟨fun q => I.1 q, fun c j hj => ?_⟩ ⟨fun _ _ => rfl, fun c hc => ?_, rfl, fun _ _ => rfl, fun _ _ => rfl⟩ (fun j hj => ?_)
    · by_cases e : c = b1
      · subst e
        have e1 : gC (stC s c (va_cpy (fun j => if j < n0 then gC s b0 j else 0) (fun j => if j < n1 then gC s c j else 0) sp.toNat dp.toNat n.toNat)) c j = va_cpy (fun j => if j < n0 then gC s b0 j else 0) (fun j => if j < n1 then gC s c j else 0) sp.toNat dp.toNat n.toNat j := by
          unfold gC stC
          exact congrFun (if_pos rfl) j
        show (bA c).1 ≤ (gC (stC s c _) c j).toInt ∧ (gC (stC s c _) c j).toInt ≤ (bA c).2.1
        rw [e1]
        unfold va_cpy
        by_cases r : dp.toNat ≤ j ∧ j < dp.toNat + n.toNat
        · rw [if_pos r]
          show (bA c).1 ≤ (if sp.toNat + (j - dp.toNat) < n0 then gC s b0 (sp.toNat + (j - dp.toNat)) else 0).toInt ∧ (if sp.toNat + (j - dp.toNat) < n0 then gC s b0 (sp.toNat + (j - dp.toNat)) else 0).toInt ≤ (bA c).2.1
          rw [if_pos (by omega)]
          have := I.2 b0 (sp.toNat + (j - dp.toNat)) (by rw [hA.2.2.1]; omega)
          exact ⟨Int.le_trans hA.1 this.1, Int.le_trans this.2 hA.2.1⟩
        · rw [if_neg r]
          show (bA c).1 ≤ (if j < n1 then gC s c j else 0).toInt ∧ (if j < n1 then gC s c j else 0).toInt ≤ (bA c).2.1
          rw [if_pos (by rw [hA.2.2.2] at hj; exact hj)]
          exact I.2 c j hj
      · have e1 : gC (stC s b1 (va_cpy (fun j => if j < n0 then gC s b0 j else 0) (fun j => if j < n1 then gC s b1 j else 0) sp.toNat dp.toNat n.toNat)) c j = gC s c j := by
          unfold gC stC
          exact congrFun (if_neg e) j
        show (bA c).1 ≤ (gC (stC s b1 _) c j).toInt ∧ (gC (stC s b1 _) c j).toInt ≤ (bA c).2.1
        rw [e1]
        exact I.2 c j hj
    · show (if c = b1 then _ else s.2.2.1 c) = _
      rw [if_neg (fun q => hc (by rw [q]; exact List.mem_singleton_self _))]
    · have e1 : gC (stC s b1 (va_cpy (fun j => if j < n0 then gC s b0 j else 0) (fun j => if j < n1 then gC s b1 j else 0) sp.toNat dp.toNat n.toNat)) b1 j = va_cpy (fun j => if j < n0 then gC s b0 j else 0) (fun j => if j < n1 then gC s b1 j else 0) sp.toNat dp.toNat n.toNat j := by
        unfold gC stC
        exact congrFun (if_pos rfl) j
      show (gC (stC s b1 _) b1 j).toInt = _
      rw [e1]
      unfold va_cpy
      by_cases r : dp.toNat ≤ j ∧ j < dp.toNat + n.toNat
      · rw [if_pos r, if_pos r]
        show (if sp.toNat + (j - dp.toNat) < n0 then gC s b0 (sp.toNat + (j - dp.toNat)) else 0).toInt = _
        rw [if_pos (by omega)]
      · rw [if_neg r, if_neg r]
        show (if j < n1 then gC s b1 j else 0).toInt = _
        rw [if_pos hj]
  · cases q
  · cases q
  · rcases q with q | q <;> cases q
end ZC
/-- the class has laid a way of w cells as its x-th -/
def CWF (x w : Int) (s t : PS) : Prop := (∀ j : Nat, j < 288 → iC t 1 j = if (x * 24).toNat ≤ j ∧ j < (x * 24).toNat + w.toNat then iC s 15 (j - (x * 24).toNat) else iC s 1 j) ∧ UPD 2 x w s t
theorem cwf_of {x w z : Int} {s u t : PS} (c : CPY 15 1 288 z (x * 24) w s u) (hz : z = 0) (h : SAM 1 u t) (h0 : SAM 2 s u) (g : UPD 2 x w u t) : CWF x w s t := by
  subst hz
  refine ⟨fun j hj => ?_, g.1, fun j hj => (g.2 j hj).trans (h0 j)⟩
  rw [h, c j hj, show (0 : Int).toNat + (j - (x * 24).toNat) = j - (x * 24).toNat from Nat.zero_add _]
theorem cwf_sam {x w : Int} {s t u : PS} (c : CWF x w s t) (h1 : SAM 1 t u) (h2 : SAM 2 t u) : CWF x w s u := ⟨fun j hj => by rw [h1]; exact c.1 j hj, upd_ts c.2 h2⟩
/-- what the class has of ways behind a stream's text -/
def WNC (B : Nat → Int) (w : Int) (s t : PS) : Prop := (iI t 9 = iI s 9 ∧ SAM 1 s t ∧ SAM 2 s t) ∨ ∃ a : WyA, parseT B w = some a ∧ iI t 9 = iI s 9 + 1 ∧ (1 ≤ a.1 ∧ a.1 ≤ 24) ∧ (∀ k : Nat, (k : Int) < a.1 → iC t 1 ((iI s 9 * 24).toNat + k) = a.2 k) ∧ iC t 2 (iI s 9).toNat = a.1 ∧ (∀ j : Nat, j < (iI s 9 * 24).toNat → iC t 1 j = iC s 1 j) ∧ ∀ j : Nat, j < (iI s 9).toNat → iC t 2 j = iC s 2 j
theorem wnc_of {B : Nat → Int} {w x y : Int} {s u t : PS} (hp : ∃ a, parseT B w = some a ∧ AGx 15 11 a u ∧ 1 ≤ a.1 ∧ a.1 ≤ 24) (c : CWF x y u t) (hx : x = iI s 9) (hy : y = iI u 11) (h0 : 0 ≤ x ∧ x ≤ 11) (h1 : SAM 1 s u) (h2 : SAM 2 s u) (hc : iI t 9 = iI s 9 + 1) : WNC B w s t := by
  obtain ⟨a, p1, p2, p3⟩ := hp
  subst hx
  refine Or.inr ⟨a, p1, hc, p3, fun k hk => ?_, ?_, fun j hj => ?_, fun j hj => ?_⟩
  · have e1 := p2.1
    rw [c.1 _ (by omega), if_pos (by omega), p2.2 k hk]
    congr 1
    omega
  · rw [c.2.1, hy, p2.1]
  · rw [c.1 _ (by omega), if_neg (by omega), h1]
  · rw [c.2.2 j (by omega), h2]
theorem wnc_sam {B : Nat → Int} {w : Int} {s t u : PS} (h : WNC B w s t) (h1 : SAM 1 t u) (h2 : SAM 2 t u) (h3 : iI u 9 = iI t 9) : WNC B w s u := by
  rcases h with ⟨q1, q2, q3⟩ | ⟨a, q1, q2, q3, q4, q5, q6, q7⟩
  · exact Or.inl ⟨h3.trans q1, sam_ts q2 h1, sam_ts q3 h2⟩
  · exact Or.inr ⟨a, q1, h3.trans q2, q3, fun k hk => (h1 _).trans (q4 k hk), (h2 _).trans q5, fun j hj => (h1 _).trans (q6 j hj), fun j hj => (h2 _).trans (q7 j hj)⟩
/-- the model's ways are as they were -/
def SWM (s t : PS) : Prop := SAM 162 s t ∧ ∀ r j : Nat, r < 12 → iC t (166 + r) j = iC s (166 + r) j ∧ iC t (178 + r) j = iC s (178 + r) j
theorem swm_rf {s : PS} : SWM s s := ⟨sam_rf, fun _ _ _ => ⟨rfl, rfl⟩⟩
theorem swm_ts {s t u : PS} (h : SWM s t) (g : SWM t u) : SWM s u := ⟨sam_ts h.1 g.1, fun r j hr => ⟨(g.2 r j hr).1.trans (h.2 r j hr).1, (g.2 r j hr).2.trans (h.2 r j hr).2⟩⟩
theorem swm_fm {L M : List Nat} {s t : PS} (F : Fm L M s t) (h : 162 ∉ M ∧ ∀ j, j < 12 → 166 + j ∉ M ∧ 178 + j ∉ M) : SWM s t := ⟨sam_fm F h.1, fun r j hr => ⟨fm_c F (h.2 r hr).1, fm_c F (h.2 r hr).2⟩⟩
/-- the model's row n while it is filled: ways and places of cells below c are there -/
def WFM (B : Nat → Int) (x n c : Int) (s t : PS) : Prop := ∃ a : WyA, parseT B x = some a ∧ AGx 165 91 a t ∧ (1 ≤ a.1 ∧ a.1 ≤ 24) ∧ iC t 162 n.toNat = a.1 ∧ (∀ j : Nat, j < n.toNat → iC t 162 j = iC s 162 j) ∧ (∀ r j : Nat, r < n.toNat → iC t (166 + r) j = iC s (166 + r) j ∧ iC t (178 + r) j = iC s (178 + r) j) ∧ (∀ k : Nat, (k : Int) < c → (k : Int) < a.1 → iC t (166 + n.toNat) k = a.2 k)
/-- the places: all below i are none; or those of the cells below c -/
def LFN (n i : Int) (t : PS) : Prop := ∀ j : Nat, (j : Int) < i → iC t (178 + n.toNat) j = -1
def LFP (B : Nat → Int) (x n c : Int) (t : PS) : Prop := ∀ a : WyA, parseT B x = some a → ∀ j : Nat, j < 128 → (iC t (178 + n.toNat) j = -1 ∧ ∀ k : Nat, (k : Int) < c → (k : Int) < a.1 → a.2 k ≠ (j : Int)) ∨ ∃ k : Nat, (k : Int) < c ∧ (k : Int) < a.1 ∧ a.2 k = (j : Int) ∧ iC t (178 + n.toNat) j = (k : Int)
theorem wfm_0 {B : Nat → Int} {x n : Int} {s t u : PS} {v : Int32} (hp : ∃ a, parseT B x = some a ∧ AGx 165 91 a t ∧ (1 ≤ a.1 ∧ a.1 ≤ 24)) (h : SWM s t) (hn : 0 ≤ n ∧ n ≤ 11) (hv : v = Int32.ofInt (iI t 91)) (hu : u = uC t 162 n.toNat v) (hb : iI t 91 ≤ 24) : WFM B x n 0 s u := by
  obtain ⟨a, p1, p2, p3⟩ := hp
  have e1 := p2.1
  subst hu hv
  refine ⟨a, p1, ag_sam p2 (fun j => iC_a (by decide)) rfl, p3, ?_, fun j hj => ?_, fun r j hr => ⟨?_, ?_⟩, fun k hk => by omega⟩
  · rw [iC_u ⟨by omega, by omega⟩, e1]
  · rw [iC_n (by omega)]; exact h.1 j
  · rw [iC_a (by omega)]; exact (h.2 r j (by omega)).1
  · rw [iC_a (by omega)]; exact (h.2 r j (by omega)).2
theorem wfm_li {B : Nat → Int} {x n c m : Int} {s t : PS} {i : Nat} {v : Int32} (h : WFM B x n c s t) (hm : m = n) (hn : 0 ≤ n ∧ n ≤ 11) : WFM B x n c s (uC t (178 + m.toNat) i v) := by
  subst hm
  obtain ⟨a, p1, p2, p3, p4, p5, p6, p7⟩ := h
  refine ⟨a, p1, ag_sam p2 (fun j => iC_a (by omega)) rfl, p3, ?_, fun j hj => ?_, fun r j hr => ⟨?_, ?_⟩, fun k hk hk2 => ?_⟩
  · rw [iC_a (by omega)]; exact p4
  · rw [iC_a (by omega)]; exact p5 j hj
  · rw [iC_a (by omega)]; exact (p6 r j hr).1
  · rw [iC_a (by omega)]; exact (p6 r j hr).2
  · rw [iC_a (by omega)]; exact p7 k hk hk2
theorem wfm_w {B : Nat → Int} {x n c m v : Int} {s t : PS} (h : WFM B x n c s t) (hm : m = n) (hn : 0 ≤ n ∧ n ≤ 11) (hc : 0 ≤ c) (hv : v = iC t 165 c.toNat) (hr : rng v) : WFM B x n (c + 1) s (uC t (166 + m.toNat) c.toNat (Int32.ofInt v)) := by
  subst hm
  obtain ⟨a, p1, p2, p3, p4, p5, p6, p7⟩ := h
  refine ⟨a, p1, ag_sam p2 (fun j => iC_a (by omega)) rfl, p3, ?_, fun j hj => ?_, fun r j hr => ⟨?_, ?_⟩, fun k hk hk2 => ?_⟩
  · rw [iC_a (by omega)]; exact p4
  · rw [iC_a (by omega)]; exact p5 j hj
  · rw [iC_a (by omega)]; exact (p6 r j hr).1
  · rw [iC_a (by omega)]; exact (p6 r j hr).2
  · by_cases e : k = c.toNat
    · subst e
      rw [iC_u hr, hv]
      exact (p2.2 _ hk2).symm
    · rw [iC_n e]; exact p7 k (by omega) hk2
theorem lfn_up {n i m : Int} {t : PS} (h : LFN n i t) (hm : m = n) (hi : 0 ≤ i) : LFN n (i + 1) (uC t (178 + m.toNat) i.toNat (Int32.ofInt (-1))) := by
  subst hm
  intro j hj
  by_cases e : j = i.toNat
  · rw [e, iC_u (by decide)]
  · rw [iC_n e]; exact h j (by omega)
theorem lfp_0 {B : Nat → Int} {x n i : Int} {t : PS} (h : LFN n i t) (hi : 128 ≤ i) : LFP B x n 0 t := fun a _ j hj => Or.inl ⟨h j (by omega), fun k hk => by omega⟩
theorem lfp_up {B : Nat → Int} {x n c m v : Int} {s t : PS} (h : LFP B x n c t) (w : WFM B x n c s t) (hm : m = n) (hn : 0 ≤ n ∧ n ≤ 11) (hc : 0 ≤ c ∧ c ≤ 23) (hc2 : c < iI t 91) (hv : v = iC t 165 c.toNat) (hv0 : 0 ≤ v) {u : PS} (hu : ∀ j, iC u (178 + n.toNat) j = iC t (178 + n.toNat) j) : LFP B x n (c + 1) (uC u (178 + m.toNat) v.toNat (Int32.ofInt c)) := by
  subst hm
  obtain ⟨a', p1, p2, -⟩ := w
  intro a ha j hj
  have ea : a' = a := Option.some.inj (p1.symm.trans ha)
  subst ea
  have e1 := p2.1
  have e2 : a'.2 c.toNat = v := by rw [hv]; exact p2.2 _ (by omega)
  by_cases e : j = v.toNat
  · refine Or.inr ⟨c.toNat, by omega, by omega, by rw [e2]; omega, ?_⟩
    rw [e, iC_u ⟨by omega, by omega⟩]; omega
  · rw [iC_n e, hu]
    rcases h a' ha j hj with ⟨q1, q2⟩ | ⟨k, q1, q2, q3, q4⟩
    · refine Or.inl ⟨q1, fun k hk hk2 => ?_⟩
      by_cases z : k = c.toNat
      · rw [z, e2]; omega
      · exact q2 k (by omega) hk2
    · exact Or.inr ⟨k, by omega, q2, q3, q4⟩
/-- what the model has of ways behind a stream's text -/
def WNM (B : Nat → Int) (x : Int) (s t : PS) : Prop := (iI t 90 = iI s 90 ∧ SWM s t) ∨ (iI t 90 = iI s 90 + 1 ∧ WFM B x (iI s 90) 24 s t ∧ LFP B x (iI s 90) 24 t)
theorem wfm_end {B : Nat → Int} {x n c : Int} {s t : PS} (h : WFM B x n c s t) (hc : iI t 91 ≤ c) : WFM B x n 24 s t := by
  obtain ⟨a, p1, p2, p3, p4, p5, p6, p7⟩ := h
  exact ⟨a, p1, p2, p3, p4, p5, p6, fun k _ hk => p7 k (by have := p2.1; omega) hk⟩
theorem lfp_end {B : Nat → Int} {x n c : Int} {s t : PS} (w : WFM B x n c s t) (h : LFP B x n c t) (hc : iI t 91 ≤ c) : LFP B x n 24 t := by
  obtain ⟨a', p1, p2, p3, -⟩ := w
  intro a ha j hj
  have ea : a' = a := Option.some.inj (p1.symm.trans ha)
  subst ea
  have e1 := p2.1
  rcases h a' ha j hj with ⟨q1, q2⟩ | ⟨k, q1, q2, q3, q4⟩
  · exact Or.inl ⟨q1, fun k _ hk => q2 k (by omega) hk⟩
  · exact Or.inr ⟨k, by omega, q2, q3, q4⟩
theorem wfm_I {B : Nat → Int} {x n c : Int} {s t : PS} {v : Int32} (h : WFM B x n c s t) : WFM B x n c s (uI t 90 v) := by
  obtain ⟨a, p1, p2, p3, p4, p5, p6, p7⟩ := h
  exact ⟨a, p1, ag_sam p2 (fun _ => rfl) rfl, p3, p4, p5, p6, p7⟩
theorem lfp_I {B : Nat → Int} {x n c : Int} {t : PS} {v : Int32} (h : LFP B x n c t) : LFP B x n c (uI t 90 v) := h
/-- class and model have the same ways -/
def WQJ (s : PS) : Prop := iI s 9 ≤ 12 ∧ ∀ x : Nat, (x : Int) < iI s 9 → iC s 2 x = iC s 162 x ∧ ∀ k : Nat, (k : Int) < iC s 2 x → iC s 1 (x * 24 + k) = iC s (166 + x) k
theorem WQJ_fm {L M : List Nat} {s t : PS} (F : Fm L M s t) (h : (9 ∉ L ∧ 2 ∉ M ∧ 1 ∉ M ∧ 162 ∉ M) ∧ ∀ j, j < 12 → 166 + j ∉ M) (r : WQJ s) : WQJ t := ⟨by rw [fm_i F h.1.1]; exact r.1, fun x hx => by
  rw [fm_i F h.1.1] at hx
  have r0 := r.1
  obtain ⟨q1, q2⟩ := r.2 x hx
  refine ⟨by rw [fm_c F h.1.2.1, fm_c F h.1.2.2.2]; exact q1, fun k hk => ?_⟩
  rw [fm_c F h.1.2.1] at hk
  rw [fm_c F h.1.2.2.1, fm_c F (h.2 x (by omega))]
  exact q2 k hk⟩
theorem wqj_up {B : Nat → Int} {w w' : Int} {s t u : PS} (h : WQJ s) (hc : WNC B w s t) (f1 : SWM s t) (hm : WNM B w' t u) (f2 : SAM 1 t u) (f3 : SAM 2 t u) (f4 : iI u 9 = iI t 9) (f5 : iI t 90 = iI s 90) (e : iI s 9 = iI s 90) (e2 : iI u 9 = iI u 90) (ew : w' = w) (b : 0 ≤ iI s 9 ∧ iI t 9 ≤ 12) (I : Bd s) : WQJ u := by
  subst ew
  refine ⟨by omega, ?_⟩
  rcases hc with ⟨q1, q2, q3⟩ | ⟨a, q1, q2, q3, q4, q5, q6, q7⟩
  · rcases hm with ⟨m1, m2⟩ | ⟨m1, -⟩
    · intro x hx
      obtain ⟨z1, z2⟩ := h.2 x (by omega)
      refine ⟨by rw [f3, q3, m2.1, f1.1]; exact z1, fun k hk => ?_⟩
      rw [f3, q3] at hk
      rw [f2, q2, (m2.2 x k (by omega)).1, (f1.2 x k (by omega)).1]
      exact z2 k hk
    · omega
  · rcases hm with ⟨m1, m2⟩ | ⟨m1, ⟨a', p1, p2, p3, p4, p5, p6, p7⟩, m3⟩
    · omega
    · have ea : a' = a := Option.some.inj (p1.symm.trans q1)
      subst ea
      have es : iI t 90 = iI s 9 := by omega
      rw [es] at p4 p5 p6 p7
      intro x hx
      by_cases z : (x : Int) = iI s 9
      · have ex : x = (iI s 9).toNat := by omega
        subst ex
        refine ⟨by rw [f3, q5, p4], fun k hk => ?_⟩
        rw [f3, q5] at hk
        rw [f2, p7 k (by omega) hk, ← q4 k hk]
        congr 1
        omega
      · obtain ⟨z1, z2⟩ := h.2 x (by omega)
        refine ⟨by rw [f3, q7 x (by omega), p5 x (by omega), f1.1]; exact z1, fun k hk => ?_⟩
        rw [f3, q7 x (by omega)] at hk
        have hb : (0 : Int) ≤ iC s 2 x ∧ iC s 2 x ≤ 24 := I.2 2 x (show x < 12 by omega)
        have hk2 : k < 24 := by omega
        rw [f2, q6 _ (by omega), (p6 x k (by omega)).1, (f1.2 x k (by omega)).1]
        exact z2 k hk
theorem wnc_at {B : Nat → Int} {w : Int} {s u t : PS} (h : (iI u 9 = 12 ∧ iI t 9 = 12 ∧ SAM 1 u t ∧ SAM 2 u t) ∨ (iI u 9 ≤ 11 ∧ iI t 9 = iI u 9 + 1 ∧ CWF (iI u 9) (iI u 11) u t)) (hp : PAR B w u) (h1 : SAM 1 s u) (h2 : SAM 2 s u) (hc : iI u 9 = iI s 9) (h0 : 0 ≤ iI u 9) : WNC B w s t := by
  rcases h with h | h
  · exact Or.inl ⟨by omega, sam_ts h1 h.2.2.1, sam_ts h2 h.2.2.2⟩
  · exact wnc_of hp h.2.2 hc rfl ⟨h0, h.1⟩ h1 h2 (by omega)
theorem par_p {B : Nat → Int} {N e : Int} {t : PS} (h : (e = 1 ∧ PAR B N t) ∨ (e = 0 ∧ parseT B N = none)) (he : e ≠ 0) : PAR B N t := by
  rcases h with h | h
  · exact h.2
  · exact absurd h.1 he
theorem at_c {s t : PS} (h : (iI s 9 = 12 ∧ iI t 9 = 12 ∧ SAM 1 s t ∧ SAM 2 s t) ∨ (iI s 9 ≤ 11 ∧ iI t 9 = iI s 9 + 1 ∧ CWF (iI s 9) (iI s 11) s t)) : (iI s 9 = 12 ∧ iI t 9 = 12) ∨ (iI s 9 ≤ 11 ∧ iI t 9 = iI s 9 + 1) := h.imp (fun q => ⟨q.1, q.2.1⟩) (fun q => ⟨q.1, q.2.1⟩)
section M87e
variable {l : Launch} {s0 : State} {D : va_G} {tys : List (ClassId × FieldType)} {a0 : Array Value} {A : Nat → Nat} {dT : Nat → ClassId} {s : PS}
set_option maxRecDepth 4000 in
theorem c9_cellAtF (G : GX l s0 D tys a0 dT) (I : Bd s) {x y : Int} (p0 : 0 ≤ x ∧ x ≤ 11) (p1 : rng y) : CT l s0 D A dT 113 (rmN 113) [.ref (A 3), .int (Int32.ofInt x), .int (Int32.ofInt y)] s (fun o t => Bd t ∧ Fm [] [] s t ∧ ∃ e, o = .inl (some (.int (Int32.ofInt e))) ∧ rng e ∧ (-1 ≤ e ∧ e ≤ 127 ∧ ((0 ≤ y ∧ y < iC s 2 x.toNat ∧ e = iC s 1 (x * 24 + y).toNat) ∨ ((y < 0 ∨ iC s 2 x.toNat ≤ y) ∧ e = -1)))) := by
  refine ct_ofX G (by decide) (Nat.le_of_ble_eq_true rfl) (fun k X E ET hRt hXt q => ?_)
  show WS k 0 [(0, .ref (A 3)), (1, .int (Int32.ofInt x)), (2, .int (Int32.ofInt y))] [] _ 0 0
  have F : Fm [] [] s s := fm_rf _ _ s
  refine z_load_n X (x := y) rfl (List.Mem.tail _ (List.Mem.tail _ (List.Mem.head _))) (z_if_lt X (t := 28) rfl rfl ⟨by first | exact p1.1 | omega, by first | exact p1.2 | omega⟩ (fun g1 => ?_) (fun g1 => ?_))
  ·
    refine z_const X rfl ?_
    exact w_iret X.1 q hRt rfl (ax_d X (show cdA 113 29 = some (.ireturn, 1, 0, 0, 0) from rfl)) (Nat.zero_le _) (Nat.zero_le _) ⟨_, rfl, I, F, (-1), rfl, (by decide), by first | exact ⟨by decide, by decide, Or.inr (And.intro (Or.inl (g1)) (by decide))⟩ | omega⟩
  ·
    refine z_load_n X (x := y) rfl (List.Mem.tail _ (List.Mem.tail _ (List.Mem.head _))) (z_aload_n X (x := A 3) rfl (List.Mem.head _) (s_getR X 3 rfl (c518_ok rfl) rfl rfl (z_load_n X (x := x) rfl (List.Mem.tail _ (List.Mem.head _)) (z_ald X 5 rfl (c518_ok rfl) rfl (by first | exact p0.1 | omega) (show x < 12 by first | exact oq_0ddfcfee p0.2 | omega) (cbig_ok rfl) ?_))))
    have b2 := bc_2 I (show (x).toNat < 12 by first | exact oq_9c5fa447 p0.2 | omega)
    refine z_icmp_ge X (t := 28) rfl rfl ⟨by first | exact p1.1 | omega, by first | exact p1.2 | omega⟩ (rng_to _) (fun g3 => ?_) (fun g3 => ?_)
    ·
      refine z_const X rfl ?_
      exact w_iret X.1 q hRt rfl (ax_d X (show cdA 113 29 = some (.ireturn, 1, 0, 0, 0) from rfl)) (Nat.zero_le _) (Nat.zero_le _) ⟨_, rfl, I, F, (-1), rfl, (by decide), by first | exact ⟨by decide, by decide, Or.inr (And.intro (Or.inr (g3)) (by decide))⟩ | omega⟩
    ·
      refine z_aload_n X (x := A 3) rfl (List.Mem.head _) (s_getR X 3 rfl (c518_ok rfl) rfl rfl (z_load_n X (x := x) rfl (List.Mem.tail _ (List.Mem.head _)) (z_bipush X rfl (z_mul X rfl (z_load_n X (x := y) rfl (List.Mem.tail _ (List.Mem.tail _ (List.Mem.head _))) (z_add X rfl (z_ald X 4 rfl (c518_ok rfl) rfl (by first | exact oq_4071a75f p0.1 g1 | omega) (show ((x * 24) + y) < 288 by first | exact oq_54efb6a2 p0.2 g3 b2.2 | omega) (cbig_ok rfl) ?_)))))))
      have b4 := bc_1 I (show (((x * 24) + y)).toNat < 288 by first | exact oq_2f719579 p0.2 g3 b2.2 | omega)
      refine z_goto X (t := 29) rfl rfl ?_
      exact w_iret X.1 q hRt rfl (ax_d X (show cdA 113 29 = some (.ireturn, 1, 0, 0, 0) from rfl)) (Nat.zero_le _) (Nat.zero_le _) ⟨_, rfl, I, F, (iC s 1 (((x * 24) + y)).toNat), rfl, (rng_to _), by first | exact ⟨oq_ca54ea22 b4.1, b4.2, Or.inl (And.intro (g1) (And.intro (g3) (by decide)))⟩ | omega⟩
set_option maxRecDepth 4000 in
theorem cs_way2 (G : GX l s0 D tys a0 dT) (I : Bd s) {u v : Int} (p0 : rng u) (p1 : rng v) : CT l s0 D A dT 139 (rmN 139) [.ref (A 0), .int (Int32.ofInt u), .int (Int32.ofInt v)] s (fun o t => Bd t ∧ Fm [] [] s t ∧ ((∃ e, o = .inl (some (.int (Int32.ofInt e))) ∧ rng e ∧ (0 ≤ u ∧ u < iI s 9 ∧ ((0 ≤ v ∧ v < iC s 2 u.toNat ∧ e = iC s 1 (u * 24 + v).toNat) ∨ ((v < 0 ∨ iC s 2 u.toNat ≤ v) ∧ e = -1)))) ∨ ∃ x : Nat, o = .inr (exN x) ∧ (x = 1 ∧ (u < 0 ∨ iI s 9 ≤ u)))) := by
  refine ct_ofX G (by decide) (Nat.le_of_ble_eq_true rfl) (fun k X E ET hRt hXt q => ?_)
  show WS k 0 [(0, .ref (A 0)), (1, .int (Int32.ofInt u)), (2, .int (Int32.ofInt v))] [] _ 0 0
  have F : Fm [] [] s s := fm_rf _ _ s
  have aw0_1 : SAM 1 s s := sam_rf
  have aw0_2 : SAM 2 s s := sam_rf
  have b1 := bi_9 I
  refine z_aload_n X (x := A 0) rfl (List.Mem.head _) (z_load_n X (x := u) rfl (List.Mem.tail _ (List.Mem.head _)) (z_callV X 0 (rm := rmN 180) (As := [.int (Int32.ofInt u)]) (st := []) rfl rfl (by decide) rfl (by rw [E.1, E.2.1, E.2.2.1]; exact cs_needStream2 G I (by first | exact ⟨p0.1, p0.2⟩ | omega)) ⟨by rw [E.2.2.2]; exact (show (rmN 180).frames + 1 ≤ (rmN 139).frames by decide), by rw [E.2.2.2]; exact (show 8 + (mNL (miB 180) + 11) + (rmN 180).locals ≤ (rmN 139).locals by decide), by rw [E.2.2.2]; exact (show 0 + 1 ≤ 1 by decide), by rw [E.2.2.2]; exact (show 0 + 6 ≤ 6 by decide)⟩ (Nat.le_of_ble_eq_true rfl) (fun vv s2 hq => ?_) (fun ee s2 hq => ?_)))
  rotate_left
  · obtain ⟨Is2, Fs2, (⟨hv, hps2⟩ | ⟨xx, hv, hps2⟩)⟩ := hq
    · cases hv
    · cases hv
      have Gs2 := fm_tq F Fs2 rfl rfl
      have ws2_9 : iI s2 9 = iI s 9 := fm_iq Fs2 rfl
      have aws2_1 : SAM 1 s s2 := sam_ts aw0_1 (sam_fm Fs2 (by decide))
      have aws2_2 : SAM 2 s s2 := sam_ts aw0_2 (sam_fm Fs2 (by decide))
      exact x_out X.1 q (fun x hx => (hXt x hx).elim) (show 1 ≤ 1 by decide) (show 6 ≤ 6 by decide) ⟨_, rfl, Is2, Gs2, Or.inr ⟨xx, rfl, by omega⟩⟩
  obtain ⟨Is2, Fs2, (⟨hv, hps2⟩ | ⟨xx, hv, hps2⟩)⟩ := hq
  rotate_left
  · cases hv
  cases hv
  have Gs2 := fm_tq F Fs2 rfl rfl
  have ws2_9 : iI s2 9 = iI s 9 := fm_iq Fs2 rfl
  have aws2_1 : SAM 1 s s2 := sam_ts aw0_1 (sam_fm Fs2 (by decide))
  have aws2_2 : SAM 2 s s2 := sam_ts aw0_2 (sam_fm Fs2 (by decide))
  show WS k 5 [(0, .ref (A 0)), (1, .int (Int32.ofInt u)), (2, .int (Int32.ofInt v))] [] (Wd A dT s2) 1 6
  refine z_aload_n X (x := A 0) rfl (List.Mem.head _) (s_getR X 0 rfl (c518_ok rfl) rfl rfl (z_load_n X (x := u) rfl (List.Mem.tail _ (List.Mem.head _)) (z_load_n X (x := v) rfl (List.Mem.tail _ (List.Mem.tail _ (List.Mem.head _))) (z_callV X 3 (rm := rmN 113) (As := [.int (Int32.ofInt u), .int (Int32.ofInt v)]) (st := []) rfl rfl (by decide) rfl (by rw [E.1, E.2.1, E.2.2.1]; exact c9_cellAtF G Is2 (by first | exact ⟨hps2.1, oq_e4d7f3c5 hps2.2 b1.2⟩ | omega) (by first | exact ⟨p1.1, p1.2⟩ | omega)) ⟨by rw [E.2.2.2]; exact (show (rmN 113).frames + 1 ≤ (rmN 139).frames by decide), by rw [E.2.2.2]; exact (show 8 + (mNL (miB 113) + 11) + (rmN 113).locals ≤ (rmN 139).locals by decide), by rw [E.2.2.2]; exact (show 1 + 0 ≤ 1 by decide), by rw [E.2.2.2]; exact (show 6 + 0 ≤ 6 by decide)⟩ (Nat.le_of_ble_eq_true rfl) (fun vv s4 hq => ?_) (fun ee s4 hq => ?_)))))
  rotate_left
  · obtain ⟨Is4, Fs4, e5, hv, hrs4, hps4⟩ := hq; cases hv
  obtain ⟨Is4, Fs4, e5, hv, hrs4, hps4⟩ := hq
  have hps4p := And.intro hps4.1 (hps4.2.1)
  cases hv
  have Gs4 := fm_tq Gs2 Fs4 rfl rfl
  have ws4_9 : iI s4 9 = iI s2 9 := fm_iq Fs4 rfl
  have aws4_1 : SAM 1 s s4 := sam_ts aws2_1 (sam_fm Fs4 (by decide))
  have aws4_2 : SAM 2 s s4 := sam_ts aws2_2 (sam_fm Fs4 (by decide))
  show WS k 14 [(0, .ref (A 0)), (1, .int (Int32.ofInt u)), (2, .int (Int32.ofInt v))] [.int (Int32.ofInt e5)] (Wd A dT s4) 1 6
  exact w_iret X.1 q hRt rfl (ax_d X (show cdA 139 14 = some (.ireturn, 1, 0, 0, 0) from rfl)) (show 1 ≤ 1 by decide) (show 6 ≤ 6 by decide) ⟨_, rfl, Is4, Gs4, Or.inl ⟨e5, rfl, hrs4, ⟨by first | exact hps2.1 | omega, by first | exact hps2.2 | omega, by have z1 := aws2_2 (u).toNat; have z2 := aws2_1 (u * 24 + v).toNat; have z3 := hps4.2.2; omega⟩⟩⟩
set_option maxRecDepth 4000 in
theorem lw_way2 (G : GX l s0 D tys a0 dT) (I : Bd s) {u v : Int} (p0 : rng u) (p1 : rng v) : CTL l s0 D A dT 316 (rmN 316) [.ref (A 0), .int (Int32.ofInt u), .int (Int32.ofInt v), .ref (A 517)] s (fun o t => Bd t ∧ Fm [] [1460] s t ∧ ∃ e, o = .inl (some (.int (Int32.ofInt e))) ∧ rng e ∧ ((e = 0 ∧ 0 ≤ u ∧ u < iI s 9 ∧ ((0 ≤ v ∧ v < iC s 2 u.toNat ∧ iO t = iC s 1 (u * 24 + v).toNat) ∨ ((v < 0 ∨ iC s 2 u.toNat ≤ v) ∧ iO t = -1))) ∨ (e = 1 ∧ (u < 0 ∨ iI s 9 ≤ u)))) := by
  refine ctL_of G (by decide) (Nat.le_of_ble_eq_true rfl) (by decide) rfl (fun k X E ET hRt hEx q => ?_)
  show WS k 0 [(0, .ref (A 0)), (1, .int (Int32.ofInt u)), (2, .int (Int32.ofInt v)), (3, .ref (A 517))] [] _ 0 0
  have F : Fm [] [1460] s s := fm_rf _ _ s
  have hA := swA_rf A
  have b1 := bi_9 I
  refine z_aload_n X (x := A 517) rfl (List.Mem.tail _ (List.Mem.tail _ (List.Mem.tail _ (List.Mem.head _)))) (z_const X rfl (z_aload_n X (x := A 0) rfl (List.Mem.head _) (z_load_n X (x := u) rfl (List.Mem.tail _ (List.Mem.head _)) (z_load_n X (x := v) rfl (List.Mem.tail _ (List.Mem.tail _ (List.Mem.head _))) (z_callV X 0 (rm := rmN 139) (As := [.int (Int32.ofInt u), .int (Int32.ofInt v)]) (st := [.int (Int32.ofInt 0), .ref (A 517)]) rfl rfl (by decide) rfl (by rw [E.1, E.2.1, E.2.2.1]; exact cs_way2 G I (by omega) (by omega)) ⟨by rw [E.2.2.2]; exact (show (rmN 139).frames + 1 ≤ (rmN 316).frames by decide), by rw [E.2.2.2]; exact (show 8 + (mNL (miB 139) + 11) + (rmN 139).locals ≤ (rmN 316).locals by decide), by rw [E.2.2.2]; exact (show 0 + (rmN 139).cells ≤ (rmN 316).cells by decide), by rw [E.2.2.2]; exact (show 0 + (rmN 139).slots ≤ (rmN 316).slots by decide)⟩ (Nat.le_of_ble_eq_true rfl) (fun vv s2 hq => ?_) (fun ee s2 hq => ?_))))))
  rotate_left
  · obtain ⟨Is2, Fs2, (⟨e3, hv, hrs2, hps2⟩ | ⟨xx, hv, hps2⟩)⟩ := hq
    · cases hv
    · cases hv
      rcases (show xx = 1 by omega) with gx
      ·
        subst gx
        have Gs2 := fm_tq F Fs2 rfl rfl
        have ws2_9 : iI s2 9 = iI s 9 := fm_iq Fs2 rfl
        refine (hEx 5 1).2 13 rfl _ _ _ _ _ (fun q1 => ?_)
        show WS k 13 [(0, .ref (A 0)), (1, .int (Int32.ofInt u)), (2, .int (Int32.ofInt v)), (3, .ref (A 517))] [.ref q1] (Wd A dT s2) 1 6
        refine z_astore X (lv' := [(4, .ref q1), (0, .ref (A 0)), (1, .int (Int32.ofInt u)), (2, .int (Int32.ofInt v)), (3, .ref (A 517))]) rfl (by decide) (fun _ h => h) (z_const X rfl ?_)
        exact w_iret X.1 q hRt rfl (ax_d X (show cdA 316 16 = some (.ireturn, 1, 0, 0, 0) from rfl)) (show 1 ≤ 1 by decide) (show 6 ≤ 6 by decide) ⟨A, _, hA, rfl, Is2, Gs2, 1, rfl, (by decide), by omega⟩
  obtain ⟨Is2, Fs2, (⟨e3, hv, hrs2, hps2⟩ | ⟨xx, hv, hps2⟩)⟩ := hq
  rotate_left
  · cases hv
  cases hv
  have Gs2 := fm_tq F Fs2 rfl rfl
  have ws2_9 : iI s2 9 = iI s 9 := fm_iq Fs2 rfl
  show WS k 8 [(0, .ref (A 0)), (1, .int (Int32.ofInt u)), (2, .int (Int32.ofInt v)), (3, .ref (A 517))] [.int (Int32.ofInt e3), .int (Int32.ofInt 0), .ref (A 517)] (Wd A dT s2) 1 6
  refine w_i2l X.1 (ax_d X (show cdA 316 8 = some (.i2l, 1, 0, 0, 0) from rfl)) (z_last X 517 rfl (c518_ok rfl) rfl (by first | (clear hps2; omega) | omega) (show 0 < 1 by first | (clear hps2; omega) | omega) (cbig_ok rfl) (wd_gen (fun s4 hs4 => ?_)))
  have Is4 : Bd s4 := eqB hs4 (bd_D Is2)
  have Fs4 : Fm [] [1460] s s4 := by rw [hs4]; exact fm_D Gs2 (show 460 + 1000 ∈ _ by decide)
  have ws4_9 : iI s4 9 = iI s2 9 := eqI hs4 rfl
  have oos4 : iO s4 = e3 := by rw [hs4]; exact iO_u (by first | (clear hps2; omega) | omega)
  refine z_goto X (t := 17) rfl rfl (z_const X rfl ?_)
  exact w_iret X.1 q hRt rfl (ax_d X (show cdA 316 18 = some (.ireturn, 1, 0, 0, 0) from rfl)) (show 1 ≤ 1 by decide) (show 6 ≤ 6 by decide) ⟨A, _, hA, rfl, Is4, Fs4, 0, rfl, (by decide), by first | (clear hps2; omega) | omega⟩
set_option maxRecDepth 4000 in
theorem k_way2 (G : GX l s0 D tys a0 dT) (I : Bd s) {x y : Int} (p0 : rng x) (p1 : rng y) : CT l s0 D A dT 217 (rmN 217) [.ref (A 179), .int (Int32.ofInt x), .int (Int32.ofInt y)] s (fun o t => Bd t ∧ Fm [73] [] s t ∧ ∃ e, o = .inl (some (.int (Int32.ofInt e))) ∧ rng e ∧ ((0 ≤ x ∧ x < iI s 90 ∧ iI t 73 = 0 ∧ ((0 ≤ y ∧ y < iC t 162 x.toNat ∧ e = iC t (166 + x.toNat) y.toNat) ∨ ((y < 0 ∨ iC t 162 x.toNat ≤ y) ∧ e = -1))) ∨ ((x < 0 ∨ iI s 90 ≤ x) ∧ iI t 73 = 1))) := by
  refine ct_of G (by decide) (Nat.le_of_ble_eq_true rfl) (fun k X E hRt hXt q => ?_)
  show WS k 0 [(0, .ref (A 179)), (1, .int (Int32.ofInt x)), (2, .int (Int32.ofInt y))] [] _ 0 0
  have F : Fm [73] [] s s := fm_rf _ _ s
  have b1 := bi_73 I
  have b2 := bi_90 I
  refine z_aload_n X (x := A 179) rfl (List.Mem.head _) (z_const X rfl (s_putI X 179 rfl (c518_ok rfl) rfl rfl (by decide) rfl rfl rfl (wd_gen (fun s3 hs3 => ?_))))
  have Is3 : Bd s3 := eqB hs3 (bd_I I (show (0 : Int) ≤ 0 ∧ 0 ≤ 3 by first | exact ⟨by decide, by decide⟩ | omega) (by decide))
  have Fs3 := eqF hs3 (fm_I F (inl_ok (a := 73) rfl))
  have vs3 : iI s3 73 = 0 := eqI hs3 (iI_u (by decide))
  have ws3_90 : iI s3 90 = iI s 90 := eqI hs3 rfl
  refine z_aload_n X (x := A 179) rfl (List.Mem.head _) (z_load_n X (x := x) rfl (List.Mem.tail _ (List.Mem.head _)) (z_const X rfl (z_aload_n X (x := A 179) rfl (List.Mem.head _) (z_getI X 179 rfl (c518_ok rfl) rfl rfl ?_))))
  have b4 := bi_90 Is3
  refine z_const X rfl (z_sub X rfl (z_callS X (rm := rmN 188) (As := [.int (Int32.ofInt x), .int (Int32.ofInt 0), .int (Int32.ofInt ((iI s3 90) - 1))]) (st := [.ref (A 179)]) rfl rfl (by rw [E.1, E.2.1, E.2.2.1]; exact k_in2 G Is3 (by first | exact ⟨p0.1, p0.2⟩ | omega) (by first | exact ⟨by decide, by decide⟩ | omega) (by first | exact ⟨oq_c1e961c7 b4.1, oq_d526ebd3 b4.2⟩ | omega)) ⟨by rw [E.2.2.2]; exact (show (rmN 188).frames + 1 ≤ (rmN 217).frames by decide), by rw [E.2.2.2]; exact (show 8 + (mNL (miB 188) + 11) + (rmN 188).locals ≤ (rmN 217).locals by decide), by rw [E.2.2.2]; exact (show 0 + (rmN 188).cells ≤ (rmN 217).cells by decide), by rw [E.2.2.2]; exact (show 0 + (rmN 188).slots ≤ (rmN 217).slots by decide)⟩ (Nat.le_of_ble_eq_true rfl) (fun vv s5 hq => ?_) (fun ee s5 hq => ?_)))
  rotate_left
  · obtain ⟨rfl, e6, hv, hrs5, hps5⟩ := hq; cases hv
  obtain ⟨rfl, e6, hv, hrs5, hps5⟩ := hq
  cases hv
  show WS k 17 [(0, .ref (A 179)), (1, .int (Int32.ofInt x)), (2, .int (Int32.ofInt y))] [.int (Int32.ofInt e6), .ref (A 179)] (Wd A dT s3) 0 0
  refine z_if_ne X (t := 24) rfl rfl hrs5 (fun g7 => ?_) (fun g7 => ?_)
  ·
    refine z_const X rfl (z_const X rfl (zcV_i0 X E 179 (As := [.int (Int32.ofInt 0), .int (Int32.ofInt 1)]) (st := []) rfl rfl rfl rfl (k_bad2 G Is3 (by first | exact Or.inl (by decide) | omega) (by first | exact ⟨by decide, by decide⟩ | omega)) rfl (Nat.le_of_ble_eq_true rfl) (fun s8 e9 Is8 Fs8 hrs8 hps8 => ?_)))
    have Gs8 := fm_tq Fs3 Fs8 rfl rfl
    have b10 := bi_73 Is8
    have ws8_90 : iI s8 90 = iI s3 90 := fm_iq Fs8 rfl
    refine z_if_eq X (t := 34) rfl rfl hrs8 (fun g11 => ?_) (fun g11 => ?_)
    ·
      refine z_load_n X (x := y) rfl (List.Mem.tail _ (List.Mem.tail _ (List.Mem.head _))) (z_const X rfl (z_aload_n X (x := A 179) rfl (List.Mem.head _) (s_getR X 179 rfl (c518_ok rfl) rfl rfl (z_load_n X (x := x) rfl (List.Mem.tail _ (List.Mem.head _)) (z_ald X 185 rfl (c518_ok rfl) rfl (by first | exact oq_5dfe5e68 g7 hps5 | omega) (show x < 12 by first | exact oq_93de823d g7 hps5 b4.2 | omega) (cbig_ok rfl) ?_)))))
      have b12 := bc_162 Is8 (show (x).toNat < 12 by first | exact oq_cdfafa20 g7 hps5 b4.2 | omega)
      refine z_const X rfl (z_sub X rfl (z_callS X (rm := rmN 188) (As := [.int (Int32.ofInt y), .int (Int32.ofInt 0), .int (Int32.ofInt ((iC s8 162 (x).toNat) - 1))]) (st := []) rfl rfl (by rw [E.1, E.2.1, E.2.2.1]; exact k_in2 G Is8 (by first | exact ⟨p1.1, p1.2⟩ | omega) (by first | exact ⟨by decide, by decide⟩ | omega) (by first | exact ⟨oq_c1e961c7 b12.1, oq_0332e1ab b12.2⟩ | omega)) ⟨by rw [E.2.2.2]; exact (show (rmN 188).frames + 1 ≤ (rmN 217).frames by decide), by rw [E.2.2.2]; exact (show 8 + (mNL (miB 188) + 11) + (rmN 188).locals ≤ (rmN 217).locals by decide), by rw [E.2.2.2]; exact (show 0 + (rmN 188).cells ≤ (rmN 217).cells by decide), by rw [E.2.2.2]; exact (show 0 + (rmN 188).slots ≤ (rmN 217).slots by decide)⟩ (Nat.le_of_ble_eq_true rfl) (fun vv s13 hq => ?_) (fun ee s13 hq => ?_)))
      rotate_left
      · obtain ⟨rfl, e14, hv, hrs13, hps13⟩ := hq; cases hv
      obtain ⟨rfl, e14, hv, hrs13, hps13⟩ := hq
      cases hv
      show WS k 47 [(0, .ref (A 179)), (1, .int (Int32.ofInt x)), (2, .int (Int32.ofInt y))] [.int (Int32.ofInt e14)] (Wd A dT s8) 0 0
      refine z_if_eq X (t := 61) rfl rfl hrs13 (fun g15 => ?_) (fun g15 => ?_)
      ·
        refine z_const X rfl ?_
        exact w_iret X.1 q hRt rfl (ax_d X (show cdA 217 62 = some (.ireturn, 1, 0, 0, 0) from rfl)) (Nat.zero_le _) (Nat.zero_le _) ⟨_, rfl, Is8, Gs8, (-1), rfl, (by decide), by first | exact oq_9a4ee189 g15 hps13 b10.1 hps8 g7 hps5 ws3_90 vs3 | omega⟩
      ·
        refine z_aload_n X (x := A 179) rfl (List.Mem.head _) (s_getR X 179 rfl (c518_ok rfl) rfl rfl (z_load_n X (x := x) rfl (List.Mem.tail _ (List.Mem.head _)) (z_aald X rw_189 rfl (by first | exact oq_5dfe5e68 g7 hps5 | omega) (show x < 12 by first | exact oq_93de823d g7 hps5 b4.2 | omega) (by decide) (z_load_n X (x := y) rfl (List.Mem.tail _ (List.Mem.tail _ (List.Mem.head _))) (z_ald2 X rw_189 rfl (show (x : Int).toNat < 12 by first | exact oq_cdfafa20 g7 hps5 b4.2 | omega) (by first | exact oq_5dfe5e68 g15 hps13 | omega) (show y < 24 by first | exact oq_6c39bb95 g15 hps13 b12.2 | omega) (by decide) ?_)))))
        have b16 : (0 : Int) ≤ (iC s8 (166 + (x : Int).toNat) (y : Int).toNat) ∧ (iC s8 (166 + (x : Int).toNat) (y : Int).toNat) ≤ 127 := rw_bd rw_189 Is8 (show (x : Int).toNat < 12 by first | exact oq_cdfafa20 g7 hps5 b4.2 | omega) (show (y : Int).toNat < 24 by first | exact oq_76eef144 g15 hps13 b12.2 | omega)
        refine z_goto X (t := 62) rfl rfl ?_
        exact w_iret X.1 q hRt rfl (ax_d X (show cdA 217 62 = some (.ireturn, 1, 0, 0, 0) from rfl)) (Nat.zero_le _) (Nat.zero_le _) ⟨_, rfl, Is8, Gs8, (iC s8 (166 + (x : Int).toNat) (y : Int).toNat), rfl, (rng_to _), by first | exact oq_05d5d766 g15 hps13 b10.1 hps8 g7 hps5 ws3_90 vs3 | omega⟩
    ·
      refine z_const X rfl ?_
      exact w_iret X.1 q hRt rfl (ax_d X (show cdA 217 33 = some (.ireturn, 1, 0, 0, 0) from rfl)) (Nat.zero_le _) (Nat.zero_le _) ⟨_, rfl, Is8, Gs8, 0, rfl, (by decide), by first | exact oq_e1acbfd9 g11 hps8 vs3 | omega⟩
  ·
    refine z_const X rfl (z_goto X (t := 25) rfl rfl (z_const X rfl (zcV_i0 X E 179 (As := [.int (Int32.ofInt 1), .int (Int32.ofInt 1)]) (st := []) rfl rfl rfl rfl (k_bad2 G Is3 (by first | exact Or.inr (by decide) | omega) (by first | exact ⟨by decide, by decide⟩ | omega)) rfl (Nat.le_of_ble_eq_true rfl) (fun s17 e18 Is17 Fs17 hrs17 hps17 => ?_))))
    have Gs17 := fm_tq Fs3 Fs17 rfl rfl
    have b19 := bi_73 Is17
    have ws17_90 : iI s17 90 = iI s3 90 := fm_iq Fs17 rfl
    refine z_if_eq X (t := 34) rfl rfl hrs17 (fun g20 => ?_) (fun g20 => ?_)
    ·
      refine z_load_n X (x := y) rfl (List.Mem.tail _ (List.Mem.tail _ (List.Mem.head _))) (z_const X rfl (z_aload_n X (x := A 179) rfl (List.Mem.head _) (s_getR X 179 rfl (c518_ok rfl) rfl rfl (z_load_n X (x := x) rfl (List.Mem.tail _ (List.Mem.head _)) (z_ald X 185 rfl (c518_ok rfl) rfl (by first | exact oq_674898f9 g20 hps17 vs3 | omega) (show x < 12 by first | exact oq_391ffabd g20 hps17 vs3 | omega) (cbig_ok rfl) ?_)))))
      have b21 := bc_162 Is17 (show (x).toNat < 12 by first | exact oq_29b04476 g20 hps17 vs3 | omega)
      refine z_const X rfl (z_sub X rfl (z_callS X (rm := rmN 188) (As := [.int (Int32.ofInt y), .int (Int32.ofInt 0), .int (Int32.ofInt ((iC s17 162 (x).toNat) - 1))]) (st := []) rfl rfl (by rw [E.1, E.2.1, E.2.2.1]; exact k_in2 G Is17 (by first | exact ⟨p1.1, p1.2⟩ | omega) (by first | exact ⟨by decide, by decide⟩ | omega) (by first | exact ⟨oq_c1e961c7 b21.1, oq_0332e1ab b21.2⟩ | omega)) ⟨by rw [E.2.2.2]; exact (show (rmN 188).frames + 1 ≤ (rmN 217).frames by decide), by rw [E.2.2.2]; exact (show 8 + (mNL (miB 188) + 11) + (rmN 188).locals ≤ (rmN 217).locals by decide), by rw [E.2.2.2]; exact (show 0 + (rmN 188).cells ≤ (rmN 217).cells by decide), by rw [E.2.2.2]; exact (show 0 + (rmN 188).slots ≤ (rmN 217).slots by decide)⟩ (Nat.le_of_ble_eq_true rfl) (fun vv s22 hq => ?_) (fun ee s22 hq => ?_)))
      rotate_left
      · obtain ⟨rfl, e23, hv, hrs22, hps22⟩ := hq; cases hv
      obtain ⟨rfl, e23, hv, hrs22, hps22⟩ := hq
      cases hv
      show WS k 47 [(0, .ref (A 179)), (1, .int (Int32.ofInt x)), (2, .int (Int32.ofInt y))] [.int (Int32.ofInt e23)] (Wd A dT s17) 0 0
      refine z_if_eq X (t := 61) rfl rfl hrs22 (fun g24 => ?_) (fun g24 => ?_)
      ·
        refine z_const X rfl ?_
        exact w_iret X.1 q hRt rfl (ax_d X (show cdA 217 62 = some (.ireturn, 1, 0, 0, 0) from rfl)) (Nat.zero_le _) (Nat.zero_le _) ⟨_, rfl, Is17, Gs17, (-1), rfl, (by decide), by first | exact oq_823922ae g20 hps17 vs3 | omega⟩
      ·
        refine z_aload_n X (x := A 179) rfl (List.Mem.head _) (s_getR X 179 rfl (c518_ok rfl) rfl rfl (z_load_n X (x := x) rfl (List.Mem.tail _ (List.Mem.head _)) (z_aald X rw_189 rfl (by first | exact oq_674898f9 g20 hps17 vs3 | omega) (show x < 12 by first | exact oq_391ffabd g20 hps17 vs3 | omega) (by decide) (z_load_n X (x := y) rfl (List.Mem.tail _ (List.Mem.tail _ (List.Mem.head _))) (z_ald2 X rw_189 rfl (show (x : Int).toNat < 12 by first | exact oq_29b04476 g20 hps17 vs3 | omega) (by first | exact oq_5dfe5e68 g24 hps22 | omega) (show y < 24 by first | exact oq_6c39bb95 g24 hps22 b21.2 | omega) (by decide) ?_)))))
        have b25 : (0 : Int) ≤ (iC s17 (166 + (x : Int).toNat) (y : Int).toNat) ∧ (iC s17 (166 + (x : Int).toNat) (y : Int).toNat) ≤ 127 := rw_bd rw_189 Is17 (show (x : Int).toNat < 12 by first | exact oq_29b04476 g20 hps17 vs3 | omega) (show (y : Int).toNat < 24 by first | exact oq_76eef144 g24 hps22 b21.2 | omega)
        refine z_goto X (t := 62) rfl rfl ?_
        exact w_iret X.1 q hRt rfl (ax_d X (show cdA 217 62 = some (.ireturn, 1, 0, 0, 0) from rfl)) (Nat.zero_le _) (Nat.zero_le _) ⟨_, rfl, Is17, Gs17, (iC s17 (166 + (x : Int).toNat) (y : Int).toNat), rfl, (rng_to _), by first | exact oq_b89ccd92 g20 hps17 vs3 | omega⟩
    ·
      refine z_const X rfl ?_
      exact w_iret X.1 q hRt rfl (ax_d X (show cdA 217 33 = some (.ireturn, 1, 0, 0, 0) from rfl)) (Nat.zero_le _) (Nat.zero_le _) ⟨_, rfl, Is17, Gs17, 0, rfl, (by decide), by first | exact oq_0fb12e2b g20 hps17 g7 hps5 ws3_90 vs3 | omega⟩
set_option maxRecDepth 4000 in
theorem k_stream3 (G : GX l s0 D tys a0 dT) {B : Nat → Int} (I : Bd s) (jRLx : RLx s) (jFDA : FDA B s) {x : Int} (p0 : rng x) : CT l s0 D A dT 200 (rmN 200) [.ref (A 179), .int (Int32.ofInt x)] s (fun o t => Bd t ∧ Fm [73, 74, 76, 90, 91, 77, 75, 78, 79, 80, 81] [165, 162, 166, 167, 168, 169, 170, 171, 172, 173, 174, 175, 176, 177, 178, 179, 180, 181, 182, 183, 184, 185, 186, 187, 188, 189] s t ∧ RLx t ∧ FDA B t ∧ ∃ e, o = .inl (some (.int (Int32.ofInt e))) ∧ rng e ∧ ((((0 ≤ x ∧ x ≤ iI s 74 ∧ x ≤ 100 ∧ iI t 74 = 0 ∧ iI t 73 = 0) ∧ STRx B x (iI s 90) (iI t 90)) ∨ ((x < 0 ∨ iI s 74 < x ∨ 100 < x) ∧ iI t 74 = iI s 74 ∧ iI t 73 = 1 ∧ iI t 90 = iI s 90)) ∧ WNM B x s t)) := by
  refine ct_of G (by decide) (Nat.le_of_ble_eq_true rfl) (fun k X E hRt hXt q => ?_)
  show WS k 0 [(0, .ref (A 179)), (1, .int (Int32.ofInt x))] [] _ 0 0
  have F : Fm [73, 74, 76, 90, 91, 77, 75, 78, 79, 80, 81] [165, 162, 166, 167, 168, 169, 170, 171, 172, 173, 174, 175, 176, 177, 178, 179, 180, 181, 182, 183, 184, 185, 186, 187, 188, 189] s s := fm_rf _ _ s
  have aw0_SWM : SWM s s := swm_rf
  have b1 := bi_73 I
  have b2 := bi_74 I
  have b3 := bi_77 I
  have b4 := bi_75 I
  have b5 := bi_79 I
  have b6 := bi_78 I
  have b7 := bi_90 I
  have b8 := bi_91 I
  have b9 := bi_81 I
  have L94 : ∀ (n : Nat) (t : PS) (xv : Int), Bd t → Fm [73, 74, 76, 90, 91, 77, 75, 78, 79, 80, 81] [165, 162, 166, 167, 168, 169, 170, 171, 172, 173, 174, 175, 176, 177, 178, 179, 180, 181, 182, 183, 184, 185, 186, 187, 188, 189] s t → RLx t → FDA B t → ((TDF t ∧ WMQ B x t) ∧ SWM s t) → ((0 ≤ x ∧ x ≤ iI s 74 ∧ x ≤ 100) ∧ iI t 74 = 0 ∧ iI t 75 = x ∧ iI t 77 ≤ 203 ∧ (iI t 79 = 0 → iI t 77 ≤ iI t 75 + 1) ∧ 1 ≤ iI t 91 ∧ iI t 90 = iI s 90 ∧ iI s 90 ≤ 11 ∧ iI t 81 = 0 ∧ iI t 73 = 0) → (400 - iI t 77 + (9 - iI t 79) : Int).toNat < n → (∀ (t' : PS), Bd t' → Fm [73, 74, 76, 90, 91, 77, 75, 78, 79, 80, 81] [165, 162, 166, 167, 168, 169, 170, 171, 172, 173, 174, 175, 176, 177, 178, 179, 180, 181, 182, 183, 184, 185, 186, 187, 188, 189] s t' → RLx t' → FDA B t' → ((TDF t' ∧ WMQ B x t') ∧ SWM s t') → ((0 ≤ x ∧ x ≤ iI s 74 ∧ x ≤ 100) ∧ iI t' 74 = 0 ∧ iI t' 75 = x ∧ iI t' 77 ≤ 203 ∧ (iI t' 79 = 0 → iI t' 77 ≤ iI t' 75 + 1) ∧ 1 ≤ iI t' 91 ∧ iI t' 90 = iI s 90 ∧ iI s 90 ≤ 11 ∧ iI t' 81 = 0 ∧ iI t' 73 = 0 ∧ (iI t' 79 ≠ 0 ∨ x ≤ iI t' 77)) → WS k 123 [(0, .ref (A 179)), (1, .int (Int32.ofInt xv))] [] (Wd A dT t') 0 0) → WS k 94 [(0, .ref (A 179)), (1, .int (Int32.ofInt xv))] [] (Wd A dT t) 0 0 := by
    intro n
    induction n with
    | zero =>
      intro t xv I F jjRLx jjFDA hq hi hm kx
      exact absurd hm (Nat.not_lt_zero _)
    | succ n ih =>
      intro t xv I F jjRLx jjFDA hq hi hm kx
      have b1001 := bi_73 I
      have b1002 := bi_74 I
      have b1003 := bi_77 I
      have b1004 := bi_75 I
      have b1005 := bi_79 I
      have b1006 := bi_78 I
      have b1007 := bi_90 I
      have b1008 := bi_91 I
      have b1009 := bi_81 I
      obtain ⟨hq, hw⟩ := hq
      refine z_aload_n X (x := A 179) rfl (List.Mem.head _) (z_getI X 179 rfl (c518_ok rfl) rfl rfl ?_)
      have b1010 := bi_79 I
      refine z_if_ne X (t := 123) rfl rfl (rng_to _) (fun g1011 => ?_) (fun g1011 => ?_)
      ·
        refine WS_pq [0, 1] (lv' := [(0, .ref (A 179)), (1, .int (Int32.ofInt xv))]) rfl ?_
        exact kx _  I F jjRLx jjFDA ⟨hq, hw⟩ (by first | exact ⟨And.intro (hi.1.1) (And.intro (hi.1.2.1) (hi.1.2.2)), hi.2.1, hi.2.2.1, hi.2.2.2.1, hi.2.2.2.2.1, hi.2.2.2.2.2.1, hi.2.2.2.2.2.2.1, hi.2.2.2.2.2.2.2.1, hi.2.2.2.2.2.2.2.2.1, hi.2.2.2.2.2.2.2.2.2, Or.inl (g1011)⟩ | omega)
      ·
        refine z_aload_n X (x := A 179) rfl (List.Mem.head _) (z_getI X 179 rfl (c518_ok rfl) rfl rfl ?_)
        have b1012 := bi_77 I
        refine z_aload_n X (x := A 179) rfl (List.Mem.head _) (z_getI X 179 rfl (c518_ok rfl) rfl rfl ?_)
        have b1013 := bi_75 I
        refine z_icmp_ge X (t := 123) rfl rfl (rng_to _) (rng_to _) (fun g1014 => ?_) (fun g1014 => ?_)
        ·
          refine WS_pq [0, 1] (lv' := [(0, .ref (A 179)), (1, .int (Int32.ofInt xv))]) rfl ?_
          exact kx _  I F jjRLx jjFDA ⟨hq, hw⟩ (by first | exact ⟨And.intro (hi.1.1) (And.intro (hi.1.2.1) (hi.1.2.2)), hi.2.1, hi.2.2.1, hi.2.2.2.1, hi.2.2.2.2.1, hi.2.2.2.2.2.1, hi.2.2.2.2.2.2.1, hi.2.2.2.2.2.2.2.1, hi.2.2.2.2.2.2.2.2.1, hi.2.2.2.2.2.2.2.2.2, Or.inr (oq_acf76229 g1014 hi.2.2.1)⟩ | omega)
        ·
          refine z_aload_n X (x := A 179) rfl (List.Mem.head _) ?_
          have JTD_t : TD t := hq.1 (by omega)
          have JFt : FDB B x t := ⟨fda_n jjFDA (by omega) (by omega), by omega, by omega⟩
          obtain ⟨a1, w1, w2, w3⟩ := wm_in hq.2 (by omega)
          refine zcV_v2 X E 179 (As := []) (st := []) rfl rfl rfl rfl (k_move2 G w2 w3 I JTD_t JFt (by first | exact oq_c9c52c8f hi.2.2.2.1 | omega) (by omega) (by first | exact g1011 | omega)) rfl (Nat.le_of_ble_eq_true rfl) (fun s1015 Is1015 Fs1015 JTD_s1015 JFDB_s1015 hps1015 => ?_)
          have hps1015p := And.intro hps1015.1 (hps1015.2.2.1)
          have Gs1015 := fm_tq F Fs1015 rfl rfl
          have JRLx_s1015 : RLx s1015 := RLx_fm Fs1015 (by decide) jjRLx
          have JFDA_s1015 : FDA B s1015 := FDA_fm Fs1015 (by decide) jjFDA
          have JFDB_s1015 : FDB B x s1015 := FDB_fm Fs1015 (by decide) JFt
          have ws1015_73 : iI s1015 73 = iI t 73 := fm_iq Fs1015 rfl
          have ws1015_74 : iI s1015 74 = iI t 74 := fm_iq Fs1015 rfl
          have b1017 := bi_77 Is1015
          have ws1015_75 : iI s1015 75 = iI t 75 := fm_iq Fs1015 rfl
          have b1018 := bi_79 Is1015
          have ws1015_78 : iI s1015 78 = iI t 78 := fm_iq Fs1015 rfl
          have ws1015_90 : iI s1015 90 = iI t 90 := fm_iq Fs1015 rfl
          have b1019 := bi_91 Is1015
          have ws1015_81 : iI s1015 81 = iI t 81 := fm_iq Fs1015 rfl
          have aws1015_SWM : SWM s s1015 := swm_ts hw (swm_fm Fs1015 (by decide))
          refine z_aload_n X (x := A 179) rfl (List.Mem.head _) ?_
          have JFs1015 : FDB B x s1015 := ⟨fda_n JFDA_s1015 (by first | (clear hps1015; omega) | omega) (by first | (clear hps1015; omega) | omega), by first | (clear hps1015; omega) | omega, by first | (clear hps1015; omega) | omega⟩
          refine zcV_v1 X E 179 (As := []) (st := []) rfl rfl rfl rfl (k_blanks2 G Is1015 JFs1015 (by first | (clear hps1015; omega) | omega)) rfl (Nat.le_of_ble_eq_true rfl) (fun s1020 Is1020 Fs1020 JFDB_s1020 hps1020 => ?_)
          have hps1020p := And.intro hps1020.1 (hps1020.2.1)
          have Gs1020 := fm_tq Gs1015 Fs1020 rfl rfl
          have JRLx_s1020 : RLx s1020 := RLx_fm Fs1020 (by decide) JRLx_s1015
          have JFDA_s1020 : FDA B s1020 := FDA_fm Fs1020 (by decide) JFDA_s1015
          have JTD_s1020 : TD s1020 := TD_fm Fs1020 (by decide) JTD_s1015
          have JFDB_s1020 : FDB B x s1020 := FDB_fm Fs1020 (by decide) JFs1015
          have ws1020_73 : iI s1020 73 = iI s1015 73 := fm_iq Fs1020 rfl
          have ws1020_74 : iI s1020 74 = iI s1015 74 := fm_iq Fs1020 rfl
          have b1022 := bi_77 Is1020
          have ws1020_75 : iI s1020 75 = iI s1015 75 := fm_iq Fs1020 rfl
          have ws1020_79 : iI s1020 79 = iI s1015 79 := fm_iq Fs1020 rfl
          have ws1020_78 : iI s1020 78 = iI s1015 78 := fm_iq Fs1020 rfl
          have ws1020_90 : iI s1020 90 = iI s1015 90 := fm_iq Fs1020 rfl
          have ws1020_91 : iI s1020 91 = iI s1015 91 := fm_iq Fs1020 rfl
          have ws1020_81 : iI s1020 81 = iI s1015 81 := fm_iq Fs1020 rfl
          have aws1020_SWM : SWM s s1020 := swm_ts aws1015_SWM (swm_fm Fs1020 (by decide))
          refine z_goto X (t := 94) rfl rfl (WS_pq [0, 1] (lv' := [(0, .ref (A 179)), (1, .int (Int32.ofInt xv))]) rfl ?_)
          exact ih _ xv Is1020 Gs1020 JRLx_s1020 JFDA_s1020 ⟨⟨fun _ => JTD_s1020, wm_up w1 (by first | (clear hps1020 hps1015; omega) | (clear hps1015; omega) | omega) hps1015.2.2.2.2 (by first | (clear hps1020 hps1015; omega) | (clear hps1015; omega) | omega) hps1020.1 (sam_fm Fs1020 (by decide)) (by first | (clear hps1020 hps1015; omega) | (clear hps1015; omega) | omega)⟩, aws1020_SWM⟩ (by first | exact ⟨And.intro (hi.1.1) (And.intro (hi.1.2.1) (hi.1.2.2)), oq_7fe879e0 ws1020_74 ws1015_74 hi.2.1 b1002.1, oq_878618b1 ws1020_75 ws1015_75 hi.2.2.1, by first | (clear hps1020 hps1015; omega) | (clear hps1015; omega) | omega, by first | (clear hps1020 hps1015; omega) | (clear hps1015; omega) | omega, oq_fed65c02 ws1020_91 hps1015.2.2.1, oq_d0d2714e ws1020_90 hi.2.2.2.2.2.2.1 ws1015_90, hi.2.2.2.2.2.2.2.1, oq_7fe879e0 ws1020_81 ws1015_81 hi.2.2.2.2.2.2.2.2.1 b1009.1, oq_7fe879e0 ws1020_73 ws1015_73 hi.2.2.2.2.2.2.2.2.2 b1001.1⟩ | omega) (by first | exact qk_me hm (oq_849580a5 ws1020_79 hps1020.2.1 b1018.1 hps1015.2.2.2.1 hps1015.1 g1011) (oq_faaf1092 g1011 b1012.2) | omega) kx
  have L161 : ∀ (n : Nat) (t : PS) (xv c : Int), Bd t → Fm [73, 74, 76, 90, 91, 77, 75, 78, 79, 80, 81] [165, 162, 166, 167, 168, 169, 170, 171, 172, 173, 174, 175, 176, 177, 178, 179, 180, 181, 182, 183, 184, 185, 186, 187, 188, 189] s t → RLx t → FDA B t → ((TD t ∧ RLx t ∧ ∀ i : Nat, i < 128 → (i : Int) < c → iC t (178 + (iI s 90 : Int).toNat) i < iC t 162 (iI s 90 : Int).toNat) ∧ (WFM B x (iI s 90) 0 s t ∧ LFN (iI s 90) c t)) → ((0 ≤ x ∧ x ≤ iI s 74 ∧ x ≤ 100) ∧ iI t 74 = 0 ∧ 1 ≤ iI t 91 ∧ iI t 90 = iI s 90 ∧ iI s 90 ≤ 11 ∧ 0 ≤ c ∧ c ≤ 128 ∧ iC t 162 (iI s 90 : Int).toNat = iI t 91 ∧ iI t 73 = 0) → (128 - c : Int).toNat < n → (∀ (t' : PS) (c' : Int), Bd t' → Fm [73, 74, 76, 90, 91, 77, 75, 78, 79, 80, 81] [165, 162, 166, 167, 168, 169, 170, 171, 172, 173, 174, 175, 176, 177, 178, 179, 180, 181, 182, 183, 184, 185, 186, 187, 188, 189] s t' → RLx t' → FDA B t' → ((TD t' ∧ RLx t' ∧ ∀ i : Nat, i < 128 → (i : Int) < c' → iC t' (178 + (iI s 90 : Int).toNat) i < iC t' 162 (iI s 90 : Int).toNat) ∧ (WFM B x (iI s 90) 0 s t' ∧ LFN (iI s 90) c' t')) → ((0 ≤ x ∧ x ≤ iI s 74 ∧ x ≤ 100) ∧ iI t' 74 = 0 ∧ 1 ≤ iI t' 91 ∧ iI t' 90 = iI s 90 ∧ iI s 90 ≤ 11 ∧ c' = 128 ∧ iC t' 162 (iI s 90 : Int).toNat = iI t' 91 ∧ iI t' 73 = 0) → WS k 186 [(0, .ref (A 179)), (1, .int (Int32.ofInt xv)), (2, .int (Int32.ofInt c'))] [] (Wd A dT t') 0 0) → WS k 161 [(0, .ref (A 179)), (1, .int (Int32.ofInt xv)), (2, .int (Int32.ofInt c))] [] (Wd A dT t) 0 0 := by
    intro n
    induction n with
    | zero =>
      intro t xv c I F jjRLx jjFDA hq hi hm kx
      exact absurd hm (Nat.not_lt_zero _)
    | succ n ih =>
      intro t xv c I F jjRLx jjFDA hq hi hm kx
      have b2001 := bi_73 I
      have b2002 := bi_74 I
      have b2003 := bi_77 I
      have b2004 := bi_75 I
      have b2005 := bi_79 I
      have b2006 := bi_78 I
      have b2007 := bi_90 I
      have b2008 := bi_91 I
      have b2009 := bi_81 I
      obtain ⟨hq, hw⟩ := hq
      refine z_load_n X (x := c) rfl (List.Mem.tail _ (List.Mem.tail _ (List.Mem.head _))) (z_sipush X rfl (z_icmp_ge X (t := 186) rfl rfl ⟨by first | exact oq_fa4e5087 hi.2.2.2.2.2.1 | omega, by first | exact oq_4ee82282 hi.2.2.2.2.2.2.1 | omega⟩ (by decide) (fun g2010 => ?_) (fun g2010 => ?_)))
      ·
        refine WS_pq [0, 1, 2] (lv' := [(0, .ref (A 179)), (1, .int (Int32.ofInt xv)), (2, .int (Int32.ofInt c))]) rfl ?_
        exact kx _ c I F jjRLx jjFDA ⟨hq, hw⟩ (by first | exact ⟨And.intro (hi.1.1) (And.intro (hi.1.2.1) (hi.1.2.2)), hi.2.1, hi.2.2.1, hi.2.2.2.1, hi.2.2.2.2.1, oq_42fe298a hi.2.2.2.2.2.2.1 g2010, hi.2.2.2.2.2.2.2.1, hi.2.2.2.2.2.2.2.2⟩ | omega)
      ·
        refine z_aload_n X (x := A 179) rfl (List.Mem.head _) (s_getR X 179 rfl (c518_ok rfl) rfl rfl (z_aload_n X (x := A 179) rfl (List.Mem.head _) (z_getI X 179 rfl (c518_ok rfl) rfl rfl ?_)))
        have b2011 := bi_90 I
        refine z_aald X rw_202 rfl (by first | exact b2011.1 | omega) (show (iI t 90) < 12 by first | exact oq_210fcd76 hi.2.2.2.1 hi.2.2.2.2.1 | omega) (by decide) (z_load_n X (x := c) rfl (List.Mem.tail _ (List.Mem.tail _ (List.Mem.head _))) (z_const X rfl (z_ast2 X rw_202 rfl (show ((iI t 90) : Int).toNat < 12 by first | exact oq_cba5df33 hi.2.2.2.1 hi.2.2.2.2.1 | omega) (by first | exact hi.2.2.2.2.2.1 | omega) (show c < 128 by first | exact g2010 | omega) (by decide) (wd_gen (fun s2012 hs2012 => ?_)))))
        have Is2012 : Bd s2012 := eqB hs2012 (rw_st rw_202 I (show ((iI t 90) : Int).toNat < 12 by first | exact oq_cba5df33 hi.2.2.2.1 hi.2.2.2.2.1 | omega) (show ((-1) : Int) ≤ (-1) ∧ (-1) ≤ 23 by first | exact ⟨by decide, by decide⟩ | omega) (by decide))
        have Fs2012 := eqF hs2012 (fm_C (i := (c : Int).toNat) (x := Int32.ofInt (-1)) F ((show ∀ j, j < 12 → 178 + j ∈ _ by decide) ((iI t 90) : Int).toNat (by first | exact oq_cba5df33 hi.2.2.2.1 hi.2.2.2.2.1 | omega)))
        have ws2012_73 : iI s2012 73 = iI t 73 := eqI hs2012 rfl
        have ws2012_74 : iI s2012 74 = iI t 74 := eqI hs2012 rfl
        have ws2012_77 : iI s2012 77 = iI t 77 := eqI hs2012 rfl
        have ws2012_75 : iI s2012 75 = iI t 75 := eqI hs2012 rfl
        have ws2012_79 : iI s2012 79 = iI t 79 := eqI hs2012 rfl
        have ws2012_78 : iI s2012 78 = iI t 78 := eqI hs2012 rfl
        have ws2012_90 : iI s2012 90 = iI t 90 := eqI hs2012 rfl
        have ws2012_91 : iI s2012 91 = iI t 91 := eqI hs2012 rfl
        have ws2012_81 : iI s2012 81 = iI t 81 := eqI hs2012 rfl
        have fs2012 : Fm [] [178, 179, 180, 181, 182, 183, 184, 185, 186, 187, 188, 189] t s2012 := by rw [hs2012]; exact fm_C (fm_rf _ _ _) ((show ∀ j, j < 12 → 178 + j ∈ _ by decide) ((iI t 90) : Int).toNat (by first | exact oq_cba5df33 hi.2.2.2.1 hi.2.2.2.2.1 | omega))
        have JFDA_s2012 : FDA B s2012 := FDA_fm fs2012 (by decide) jjFDA
        have JTD_s2012 : TD s2012 := TD_fm fs2012 (by decide) hq.1
        refine z_inc X (x := c) (lv' := [(2, .int (Int32.ofInt (c + 1))), (0, .ref (A 179)), (1, .int (Int32.ofInt xv))]) rfl (by decide) (List.Mem.tail _ (List.Mem.tail _ (List.Mem.head _))) (fun _ h => h) (z_goto X (t := 161) rfl rfl (WS_pq [1, 2, 0] (lv' := [(0, .ref (A 179)), (1, .int (Int32.ofInt xv)), (2, .int (Int32.ofInt (c + 1)))]) rfl ?_))
        have es_s2012 : iI t 90 = iI s 90 := by omega
        have vm_s2012 : iC s2012 162 (iI s 90 : Int).toNat = iC t 162 (iI s 90 : Int).toNat := by rw [hs2012, iC_a (by omega)]
        have hL2013 : TD s2012 ∧ RLx s2012 ∧ ∀ i : Nat, i < 128 → (i : Int) < (c + 1) → iC s2012 (178 + (iI s 90 : Int).toNat) i < iC s2012 162 (iI s 90 : Int).toNat := by
          refine ⟨JTD_s2012, by rw [hs2012, es_s2012]; exact RLx_l hq.2.1 (by omega), fun i hi h => ?_⟩
          rw [vm_s2012]
          by_cases e : i = (c : Int).toNat
          · rw [e, hs2012, es_s2012, iC_u ⟨by omega, by omega⟩]; omega
          · rw [hs2012, es_s2012, iC_n e]; exact hq.2.2 i hi (by omega)
        exact ih _ xv (c + 1) Is2012 Fs2012 hL2013.2.1 JFDA_s2012 ⟨hL2013, ⟨by rw [hs2012]; exact wfm_li hw.1 (by omega) (by omega), by rw [hs2012]; exact lfn_up hw.2 (by omega) (by omega)⟩⟩ (by first | exact ⟨And.intro (hi.1.1) (And.intro (hi.1.2.1) (hi.1.2.2)), oq_333640b7 ws2012_74 hi.2.1 b2002.1, oq_fed65c02 ws2012_91 hi.2.2.1, oq_1aa5be9e ws2012_90 es_s2012, hi.2.2.2.2.1, oq_54f49eb5 hi.2.2.2.2.2.1, oq_d2afb425 g2010, oq_f5ee3737 ws2012_91 vm_s2012 hi.2.2.2.2.2.2.2.1, oq_333640b7 ws2012_73 hi.2.2.2.2.2.2.2.2 b2001.1⟩ | omega) (by first | exact qk_me hm (by decide) (oq_c268b7bd g2010) | omega) kx
  have L188 : ∀ (n : Nat) (t : PS) (xv c : Int), Bd t → Fm [73, 74, 76, 90, 91, 77, 75, 78, 79, 80, 81] [165, 162, 166, 167, 168, 169, 170, 171, 172, 173, 174, 175, 176, 177, 178, 179, 180, 181, 182, 183, 184, 185, 186, 187, 188, 189] s t → RLx t → FDA B t → ((TD t ∧ RLx t ∧ ∀ i : Nat, i < 128 → (i : Int) < 128 → iC t (178 + (iI s 90 : Int).toNat) i < iC t 162 (iI s 90 : Int).toNat) ∧ (WFM B x (iI s 90) c s t ∧ LFP B x (iI s 90) c t)) → ((0 ≤ x ∧ x ≤ iI s 74 ∧ x ≤ 100) ∧ iI t 74 = 0 ∧ 1 ≤ iI t 91 ∧ iI t 90 = iI s 90 ∧ iI s 90 ≤ 11 ∧ 0 ≤ c ∧ c ≤ 24 ∧ iC t 162 (iI s 90 : Int).toNat = iI t 91 ∧ iI t 73 = 0) → (24 - c : Int).toNat < n → (∀ (t' : PS) (c' : Int), Bd t' → Fm [73, 74, 76, 90, 91, 77, 75, 78, 79, 80, 81] [165, 162, 166, 167, 168, 169, 170, 171, 172, 173, 174, 175, 176, 177, 178, 179, 180, 181, 182, 183, 184, 185, 186, 187, 188, 189] s t' → RLx t' → FDA B t' → ((TD t' ∧ RLx t' ∧ ∀ i : Nat, i < 128 → (i : Int) < 128 → iC t' (178 + (iI s 90 : Int).toNat) i < iC t' 162 (iI s 90 : Int).toNat) ∧ (WFM B x (iI s 90) c' s t' ∧ LFP B x (iI s 90) c' t')) → ((0 ≤ x ∧ x ≤ iI s 74 ∧ x ≤ 100) ∧ iI t' 74 = 0 ∧ 1 ≤ iI t' 91 ∧ iI t' 90 = iI s 90 ∧ iI s 90 ≤ 11 ∧ 0 ≤ c' ∧ c' ≤ 24 ∧ iC t' 162 (iI s 90 : Int).toNat = iI t' 91 ∧ iI t' 73 = 0 ∧ iI t' 91 ≤ c') → WS k 236 [(0, .ref (A 179)), (1, .int (Int32.ofInt xv)), (2, .int (Int32.ofInt c'))] [] (Wd A dT t') 0 0) → WS k 188 [(0, .ref (A 179)), (1, .int (Int32.ofInt xv)), (2, .int (Int32.ofInt c))] [] (Wd A dT t) 0 0 := by
    intro n
    induction n with
    | zero =>
      intro t xv c I F jjRLx jjFDA hq hi hm kx
      exact absurd hm (Nat.not_lt_zero _)
    | succ n ih =>
      intro t xv c I F jjRLx jjFDA hq hi hm kx
      have b3001 := bi_73 I
      have b3002 := bi_74 I
      have b3003 := bi_77 I
      have b3004 := bi_75 I
      have b3005 := bi_79 I
      have b3006 := bi_78 I
      have b3007 := bi_90 I
      have b3008 := bi_91 I
      have b3009 := bi_81 I
      obtain ⟨hq, hw⟩ := hq
      refine z_load_n X (x := c) rfl (List.Mem.tail _ (List.Mem.tail _ (List.Mem.head _))) (z_aload_n X (x := A 179) rfl (List.Mem.head _) (z_getI X 179 rfl (c518_ok rfl) rfl rfl ?_))
      have b3010 := bi_91 I
      refine z_icmp_ge X (t := 236) rfl rfl ⟨by first | exact oq_fa4e5087 hi.2.2.2.2.2.1 | omega, by first | exact oq_5bcd337f hi.2.2.2.2.2.2.1 | omega⟩ (rng_to _) (fun g3011 => ?_) (fun g3011 => ?_)
      ·
        refine WS_pq [0, 1, 2] (lv' := [(0, .ref (A 179)), (1, .int (Int32.ofInt xv)), (2, .int (Int32.ofInt c))]) rfl ?_
        exact kx _ c I F jjRLx jjFDA ⟨hq, hw⟩ (by first | exact ⟨And.intro (hi.1.1) (And.intro (hi.1.2.1) (hi.1.2.2)), hi.2.1, hi.2.2.1, hi.2.2.2.1, hi.2.2.2.2.1, hi.2.2.2.2.2.1, hi.2.2.2.2.2.2.1, hi.2.2.2.2.2.2.2.1, hi.2.2.2.2.2.2.2.2, g3011⟩ | omega)
      ·
        refine z_aload_n X (x := A 179) rfl (List.Mem.head _) (s_getR X 179 rfl (c518_ok rfl) rfl rfl (z_aload_n X (x := A 179) rfl (List.Mem.head _) (z_getI X 179 rfl (c518_ok rfl) rfl rfl ?_)))
        have b3012 := bi_90 I
        refine z_aald X rw_189 rfl (by first | exact b3012.1 | omega) (show (iI t 90) < 12 by first | exact oq_210fcd76 hi.2.2.2.1 hi.2.2.2.2.1 | omega) (by decide) (z_load_n X (x := c) rfl (List.Mem.tail _ (List.Mem.tail _ (List.Mem.head _))) (z_aload_n X (x := A 179) rfl (List.Mem.head _) (s_getR X 179 rfl (c518_ok rfl) rfl rfl (z_load_n X (x := c) rfl (List.Mem.tail _ (List.Mem.tail _ (List.Mem.head _))) ?_))))
        have hT3013 := hq.1 (c : Int).toNat (by omega)
        refine z_ald X 188 rfl (c518_ok rfl) rfl (by first | exact hi.2.2.2.2.2.1 | omega) (show c < 24 by first | exact oq_8ff7beb9 g3011 b3010.2 | omega) (cbig_ok rfl) ?_
        have b3014 := bc_165 I (show (c).toNat < 24 by first | exact oq_9e668fc9 g3011 b3010.2 | omega)
        refine z_ast2 X rw_189 rfl (show ((iI t 90) : Int).toNat < 12 by first | exact oq_cba5df33 hi.2.2.2.1 hi.2.2.2.2.1 | omega) (by first | exact hi.2.2.2.2.2.1 | omega) (show c < 24 by first | exact oq_8ff7beb9 g3011 b3010.2 | omega) (by decide) (wd_gen (fun s3015 hs3015 => ?_))
        have Is3015 : Bd s3015 := eqB hs3015 (rw_st rw_189 I (show ((iI t 90) : Int).toNat < 12 by first | exact oq_cba5df33 hi.2.2.2.1 hi.2.2.2.2.1 | omega) (show (0 : Int) ≤ (iC t 165 (c).toNat) ∧ (iC t 165 (c).toNat) ≤ 127 by omega) (rng_to _))
        have Fs3015 := eqF hs3015 (fm_C (i := (c : Int).toNat) (x := Int32.ofInt (iC t 165 (c).toNat)) F ((show ∀ j, j < 12 → 166 + j ∈ _ by decide) ((iI t 90) : Int).toNat (by first | exact oq_cba5df33 hi.2.2.2.1 hi.2.2.2.2.1 | omega)))
        have ws3015_73 : iI s3015 73 = iI t 73 := eqI hs3015 rfl
        have ws3015_74 : iI s3015 74 = iI t 74 := eqI hs3015 rfl
        have ws3015_77 : iI s3015 77 = iI t 77 := eqI hs3015 rfl
        have ws3015_75 : iI s3015 75 = iI t 75 := eqI hs3015 rfl
        have ws3015_79 : iI s3015 79 = iI t 79 := eqI hs3015 rfl
        have ws3015_78 : iI s3015 78 = iI t 78 := eqI hs3015 rfl
        have ws3015_90 : iI s3015 90 = iI t 90 := eqI hs3015 rfl
        have ws3015_91 : iI s3015 91 = iI t 91 := eqI hs3015 rfl
        have ws3015_81 : iI s3015 81 = iI t 81 := eqI hs3015 rfl
        have fs3015 : Fm [] [166, 167, 168, 169, 170, 171, 172, 173, 174, 175, 176, 177] t s3015 := by rw [hs3015]; exact fm_C (fm_rf _ _ _) ((show ∀ j, j < 12 → 166 + j ∈ _ by decide) ((iI t 90) : Int).toNat (by first | exact oq_cba5df33 hi.2.2.2.1 hi.2.2.2.2.1 | omega))
        have JFDA_s3015 : FDA B s3015 := FDA_fm fs3015 (by decide) jjFDA
        have JTD_s3015 : TD s3015 := TD_fm fs3015 (by decide) hq.1
        refine z_aload_n X (x := A 179) rfl (List.Mem.head _) (s_getR X 179 rfl (c518_ok rfl) rfl rfl (z_aload_n X (x := A 179) rfl (List.Mem.head _) (z_getI X 179 rfl (c518_ok rfl) rfl rfl ?_)))
        have b3016 := bi_90 Is3015
        refine z_aald X rw_202 rfl (by first | exact b3016.1 | omega) (show (iI s3015 90) < 12 by first | exact oq_e2284db0 ws3015_90 hi.2.2.2.1 hi.2.2.2.2.1 | omega) (by decide) (z_aload_n X (x := A 179) rfl (List.Mem.head _) (s_getR X 179 rfl (c518_ok rfl) rfl rfl (z_load_n X (x := c) rfl (List.Mem.tail _ (List.Mem.tail _ (List.Mem.head _))) ?_)))
        have hT3017 := JTD_s3015 (c : Int).toNat (by omega)
        refine z_ald X 188 rfl (c518_ok rfl) rfl (by first | exact hi.2.2.2.2.2.1 | omega) (show c < 24 by first | exact oq_8ff7beb9 g3011 b3010.2 | omega) (cbig_ok rfl) ?_
        have b3018 := bc_165 Is3015 (show (c).toNat < 24 by first | exact oq_9e668fc9 g3011 b3010.2 | omega)
        refine z_load_n X (x := c) rfl (List.Mem.tail _ (List.Mem.tail _ (List.Mem.head _))) (z_ast2 X rw_202 rfl (show ((iI s3015 90) : Int).toNat < 12 by first | exact oq_29bc6d1f ws3015_90 hi.2.2.2.1 hi.2.2.2.2.1 | omega) (by omega) (show (iC s3015 165 (c).toNat) < 128 by omega) (by decide) (wd_gen (fun s3019 hs3019 => ?_)))
        have Is3019 : Bd s3019 := eqB hs3019 (rw_st rw_202 Is3015 (show ((iI s3015 90) : Int).toNat < 12 by first | exact oq_29bc6d1f ws3015_90 hi.2.2.2.1 hi.2.2.2.2.1 | omega) (show ((-1) : Int) ≤ c ∧ c ≤ 23 by first | exact ⟨oq_ca54ea22 hi.2.2.2.2.2.1, oq_10212474 g3011 b3010.2⟩ | omega) ⟨by first | exact oq_fa4e5087 hi.2.2.2.2.2.1 | omega, by first | exact oq_5bcd337f hi.2.2.2.2.2.2.1 | omega⟩)
        have Fs3019 := eqF hs3019 (fm_C (i := ((iC s3015 165 (c).toNat) : Int).toNat) (x := Int32.ofInt c) Fs3015 ((show ∀ j, j < 12 → 178 + j ∈ _ by decide) ((iI s3015 90) : Int).toNat (by first | exact oq_29bc6d1f ws3015_90 hi.2.2.2.1 hi.2.2.2.2.1 | omega)))
        have ws3019_73 : iI s3019 73 = iI s3015 73 := eqI hs3019 rfl
        have ws3019_74 : iI s3019 74 = iI s3015 74 := eqI hs3019 rfl
        have ws3019_77 : iI s3019 77 = iI s3015 77 := eqI hs3019 rfl
        have ws3019_75 : iI s3019 75 = iI s3015 75 := eqI hs3019 rfl
        have ws3019_79 : iI s3019 79 = iI s3015 79 := eqI hs3019 rfl
        have ws3019_78 : iI s3019 78 = iI s3015 78 := eqI hs3019 rfl
        have ws3019_90 : iI s3019 90 = iI s3015 90 := eqI hs3019 rfl
        have ws3019_91 : iI s3019 91 = iI s3015 91 := eqI hs3019 rfl
        have ws3019_81 : iI s3019 81 = iI s3015 81 := eqI hs3019 rfl
        have fs3019 : Fm [] [178, 179, 180, 181, 182, 183, 184, 185, 186, 187, 188, 189] s3015 s3019 := by rw [hs3019]; exact fm_C (fm_rf _ _ _) ((show ∀ j, j < 12 → 178 + j ∈ _ by decide) ((iI s3015 90) : Int).toNat (by first | exact oq_29bc6d1f ws3015_90 hi.2.2.2.1 hi.2.2.2.2.1 | omega))
        have JFDA_s3019 : FDA B s3019 := FDA_fm fs3019 (by decide) JFDA_s3015
        have JTD_s3019 : TD s3019 := TD_fm fs3019 (by decide) JTD_s3015
        refine z_inc X (x := c) (lv' := [(2, .int (Int32.ofInt (c + 1))), (0, .ref (A 179)), (1, .int (Int32.ofInt xv))]) rfl (by decide) (List.Mem.tail _ (List.Mem.tail _ (List.Mem.head _))) (fun _ h => h) (z_goto X (t := 188) rfl rfl (WS_pq [1, 2, 0] (lv' := [(0, .ref (A 179)), (1, .int (Int32.ofInt xv)), (2, .int (Int32.ofInt (c + 1)))]) rfl ?_))
        have es_s3019 : iI s3015 90 = iI s 90 := by omega
        have eo_s3019 : iI t 90 = iI s 90 := by omega
        have vm_s3019 : iC s3019 162 (iI s 90 : Int).toNat = iC t 162 (iI s 90 : Int).toNat := by rw [hs3019, iC_a (by omega), hs3015, iC_a (by omega)]
        have rl_s3019 : RLx s3015 := by rw [hs3015]; exact RLx_w hq.2.1 ⟨by omega, fun j hj => by omega⟩
        have hL3020 : TD s3019 ∧ RLx s3019 ∧ ∀ i : Nat, i < 128 → (i : Int) < 128 → iC s3019 (178 + (iI s 90 : Int).toNat) i < iC s3019 162 (iI s 90 : Int).toNat := by
          refine ⟨JTD_s3019, by rw [hs3019, es_s3019]; exact RLx_l rl_s3019 (by omega), fun i hi h => ?_⟩
          rw [vm_s3019]
          by_cases e : i = ((iC s3015 165 (c).toNat) : Int).toNat
          · rw [e, hs3019, es_s3019, iC_u ⟨by omega, by omega⟩]; omega
          · rw [hs3019, es_s3019, iC_n e, hs3015, iC_a (by omega)]; exact hq.2.2 i hi (by omega)
        exact ih _ xv (c + 1) Is3019 Fs3019 hL3020.2.1 JFDA_s3019 ⟨hL3020, ⟨by rw [hs3019]; exact wfm_li (by rw [hs3015]; exact wfm_w hw.1 (by omega) (by omega) (by omega) rfl (rng_to _)) (by omega) (by omega), by rw [hs3019]; exact lfp_up hw.2 hw.1 (by omega) (by omega) (by omega) (by omega) (by rw [hs3015]; exact iC_a (by omega)) (by omega) (fun j => by rw [hs3015]; exact iC_a (by omega))⟩⟩ (by first | exact ⟨And.intro (hi.1.1) (And.intro (hi.1.2.1) (hi.1.2.2)), oq_7fe879e0 ws3019_74 ws3015_74 hi.2.1 b3002.1, oq_48a46d4a ws3019_91 ws3015_91 hi.2.2.1, oq_1aa5be9e ws3019_90 es_s3019, hi.2.2.2.2.1, oq_54f49eb5 hi.2.2.2.2.2.1, oq_41473be0 g3011 b3010.2, oq_123e5d3a ws3019_91 vm_s3019 ws3015_91 hi.2.2.2.2.2.2.2.1, oq_7fe879e0 ws3019_73 ws3015_73 hi.2.2.2.2.2.2.2.2 b3001.1⟩ | omega) (by first | exact qk_me hm (by decide) (oq_9dea93e6 g3011 b3010.2) | omega) kx
  refine z_aload_n X (x := A 179) rfl (List.Mem.head _) (z_const X rfl (s_putI X 179 rfl (c518_ok rfl) rfl rfl (by decide) rfl rfl rfl (wd_gen (fun s10 hs10 => ?_))))
  have Is10 : Bd s10 := eqB hs10 (bd_I I (show (0 : Int) ≤ 0 ∧ 0 ≤ 3 by first | exact ⟨by decide, by decide⟩ | omega) (by decide))
  have Fs10 := eqF hs10 (fm_I F (inl_ok (a := 73) rfl))
  have vs10 : iI s10 73 = 0 := eqI hs10 (iI_u (by decide))
  have ws10_74 : iI s10 74 = iI s 74 := eqI hs10 rfl
  have ws10_77 : iI s10 77 = iI s 77 := eqI hs10 rfl
  have ws10_75 : iI s10 75 = iI s 75 := eqI hs10 rfl
  have ws10_79 : iI s10 79 = iI s 79 := eqI hs10 rfl
  have ws10_78 : iI s10 78 = iI s 78 := eqI hs10 rfl
  have ws10_90 : iI s10 90 = iI s 90 := eqI hs10 rfl
  have ws10_91 : iI s10 91 = iI s 91 := eqI hs10 rfl
  have ws10_81 : iI s10 81 = iI s 81 := eqI hs10 rfl
  have aws10_SWM : SWM s s10 := by rw [hs10]; exact aw0_SWM
  have fs10 : Fm [73] [] s s10 := by rw [hs10]; exact fm_I (fm_rf _ _ _) (show 73 ∈ _ by decide)
  have JRLx_s10 : RLx s10 := RLx_fm fs10 (by decide) jRLx
  have JFDA_s10 : FDA B s10 := FDA_fm fs10 (by decide) jFDA
  refine z_aload_n X (x := A 179) rfl (List.Mem.head _) (z_load_n X (x := x) rfl (List.Mem.tail _ (List.Mem.head _)) (z_const X rfl (z_aload_n X (x := A 179) rfl (List.Mem.head _) (z_getI X 179 rfl (c518_ok rfl) rfl rfl ?_))))
  have b11 := bi_74 Is10
  refine z_bipush X rfl ?_
  have N12 : ∀ e13 : Int, (((100 ≤ (iI s10 74)) ∧ e13 = 100) ∨ (((iI s10 74) < 100) ∧ ((0 : Int) ≤ iI s10 74 ∧ iI s10 74 ≤ 200) ∧ e13 = (iI s10 74))) → WS k 26 [(0, .ref (A 179)), (1, .int (Int32.ofInt x))] [.int (Int32.ofInt e13), .int (Int32.ofInt 0), .int (Int32.ofInt x), .ref (A 179)] (Wd A dT s10) 0 0 := by
    intro e13 he13
    refine z_callS X (rm := rmN 188) (As := [.int (Int32.ofInt x), .int (Int32.ofInt 0), .int (Int32.ofInt e13)]) (st := [.ref (A 179)]) rfl rfl (by rw [E.1, E.2.1, E.2.2.1]; exact k_in2 G Is10 (by first | exact ⟨p0.1, p0.2⟩ | omega) (by first | exact ⟨by decide, by decide⟩ | omega) (by first | exact ⟨oq_24bf7586 he13 b11.1, oq_1539ade6 he13⟩ | omega)) ⟨by rw [E.2.2.2]; exact (show (rmN 188).frames + 1 ≤ (rmN 200).frames by decide), by rw [E.2.2.2]; exact (show 8 + (mNL (miB 188) + 11) + (rmN 188).locals ≤ (rmN 200).locals by decide), by rw [E.2.2.2]; exact (show 0 + (rmN 188).cells ≤ (rmN 200).cells by decide), by rw [E.2.2.2]; exact (show 0 + (rmN 188).slots ≤ (rmN 200).slots by decide)⟩ (Nat.le_of_ble_eq_true rfl) (fun vv s14 hq => ?_) (fun ee s14 hq => ?_)
    rotate_left
    · obtain ⟨rfl, e15, hv, hrs14, hps14⟩ := hq; cases hv
    obtain ⟨rfl, e15, hv, hrs14, hps14⟩ := hq
    cases hv
    show WS k 29 [(0, .ref (A 179)), (1, .int (Int32.ofInt x))] [.int (Int32.ofInt e15), .ref (A 179)] (Wd A dT s10) 0 0
    have N16 : ∀ e17 : Int, (((e15 ≠ 0) ∧ e17 = 0) ∨ ((e15 = 0) ∧ e17 = 1)) → WS k 37 [(0, .ref (A 179)), (1, .int (Int32.ofInt x))] [.int (Int32.ofInt e17), .ref (A 179)] (Wd A dT s10) 0 0 := by
      intro e17 he17
      have re17 : 0 ≤ e17 ∧ e17 ≤ 1 := by first | (clear he17 hps14 he13; omega) | (clear hps14 he13; omega) | omega
      refine z_const X rfl (zcV_i0 X E 179 (As := [.int (Int32.ofInt e17), .int (Int32.ofInt 1)]) (st := []) rfl rfl rfl rfl (k_bad2 G Is10 (by first | exact oq_31e518ae re17.2 re17.1 | omega) (by first | exact ⟨by decide, by decide⟩ | omega)) rfl (Nat.le_of_ble_eq_true rfl) (fun s18 e19 Is18 Fs18 hrs18 hps18 => ?_))
      have Gs18 := fm_tq Fs10 Fs18 rfl rfl
      have JRLx_s18 : RLx s18 := RLx_fm Fs18 (by decide) JRLx_s10
      have JFDA_s18 : FDA B s18 := FDA_fm Fs18 (by decide) JFDA_s10
      have b20 := bi_73 Is18
      have ws18_74 : iI s18 74 = iI s10 74 := fm_iq Fs18 rfl
      have ws18_77 : iI s18 77 = iI s10 77 := fm_iq Fs18 rfl
      have ws18_75 : iI s18 75 = iI s10 75 := fm_iq Fs18 rfl
      have ws18_79 : iI s18 79 = iI s10 79 := fm_iq Fs18 rfl
      have ws18_78 : iI s18 78 = iI s10 78 := fm_iq Fs18 rfl
      have ws18_90 : iI s18 90 = iI s10 90 := fm_iq Fs18 rfl
      have ws18_91 : iI s18 91 = iI s10 91 := fm_iq Fs18 rfl
      have ws18_81 : iI s18 81 = iI s10 81 := fm_iq Fs18 rfl
      have aws18_SWM : SWM s s18 := swm_ts aws10_SWM (swm_fm Fs18 (by decide))
      refine z_if_eq X (t := 46) rfl rfl hrs18 (fun g21 => ?_) (fun g21 => ?_)
      ·
        refine z_aload_n X (x := A 179) rfl (List.Mem.head _) (z_const X rfl (s_putI X 179 rfl (c518_ok rfl) rfl rfl (by decide) rfl rfl rfl (wd_gen (fun s22 hs22 => ?_))))
        have Is22 : Bd s22 := eqB hs22 (bd_I Is18 (show (0 : Int) ≤ 0 ∧ 0 ≤ 200 by first | exact ⟨by decide, by decide⟩ | omega) (by decide))
        have Fs22 := eqF hs22 (fm_I Gs18 (inl_ok (a := 74) rfl))
        have vs22 : iI s22 74 = 0 := eqI hs22 (iI_u (by decide))
        have ws22_73 : iI s22 73 = iI s18 73 := eqI hs22 rfl
        have ws22_77 : iI s22 77 = iI s18 77 := eqI hs22 rfl
        have ws22_75 : iI s22 75 = iI s18 75 := eqI hs22 rfl
        have ws22_79 : iI s22 79 = iI s18 79 := eqI hs22 rfl
        have ws22_78 : iI s22 78 = iI s18 78 := eqI hs22 rfl
        have ws22_90 : iI s22 90 = iI s18 90 := eqI hs22 rfl
        have ws22_91 : iI s22 91 = iI s18 91 := eqI hs22 rfl
        have ws22_81 : iI s22 81 = iI s18 81 := eqI hs22 rfl
        have aws22_SWM : SWM s s22 := by rw [hs22]; exact aws18_SWM
        have fs22 : Fm [74] [] s18 s22 := by rw [hs22]; exact fm_I (fm_rf _ _ _) (show 74 ∈ _ by decide)
        have JRLx_s22 : RLx s22 := RLx_fm fs22 (by decide) JRLx_s18
        have JFDA_s22 : FDA B s22 := FDA_fm fs22 (by decide) JFDA_s18
        refine z_aload_n X (x := A 179) rfl (List.Mem.head _) (z_const X rfl (s_putI X 179 rfl (c518_ok rfl) rfl rfl (by decide) rfl rfl rfl (wd_gen (fun s23 hs23 => ?_))))
        have Is23 : Bd s23 := eqB hs23 (bd_I Is22 (show ((-1) : Int) ≤ (-1) ∧ (-1) ≤ 400 by first | exact ⟨by decide, by decide⟩ | omega) (by decide))
        have Fs23 := eqF hs23 (fm_I Fs22 (inl_ok (a := 76) rfl))
        have vs23 : iI s23 76 = (-1) := eqI hs23 (iI_u (by decide))
        have ws23_73 : iI s23 73 = iI s22 73 := eqI hs23 rfl
        have ws23_74 : iI s23 74 = iI s22 74 := eqI hs23 rfl
        have ws23_77 : iI s23 77 = iI s22 77 := eqI hs23 rfl
        have ws23_75 : iI s23 75 = iI s22 75 := eqI hs23 rfl
        have ws23_79 : iI s23 79 = iI s22 79 := eqI hs23 rfl
        have ws23_78 : iI s23 78 = iI s22 78 := eqI hs23 rfl
        have ws23_90 : iI s23 90 = iI s22 90 := eqI hs23 rfl
        have ws23_91 : iI s23 91 = iI s22 91 := eqI hs23 rfl
        have ws23_81 : iI s23 81 = iI s22 81 := eqI hs23 rfl
        have aws23_SWM : SWM s s23 := by rw [hs23]; exact aws22_SWM
        have fs23 : Fm [76] [] s22 s23 := by rw [hs23]; exact fm_I (fm_rf _ _ _) (show 76 ∈ _ by decide)
        have JRLx_s23 : RLx s23 := RLx_fm fs23 (by decide) JRLx_s22
        have JFDA_s23 : FDA B s23 := FDA_fm fs23 (by decide) JFDA_s22
        refine z_aload_n X (x := A 179) rfl (List.Mem.head _) (z_getI X 179 rfl (c518_ok rfl) rfl rfl ?_)
        have b24 := bi_90 Is23
        refine z_bipush X rfl (z_icmp_ne X (t := 67) rfl rfl (rng_to _) (by decide) (fun g25 => ?_) (fun g25 => ?_))
        ·
          refine z_aload_n X (x := A 179) rfl (List.Mem.head _) (z_load_n X (x := x) rfl (List.Mem.tail _ (List.Mem.head _)) (zcV_v0 X E 179 (As := [.int (Int32.ofInt x)]) (st := []) rfl rfl rfl rfl (k_beginText2 G Is23 (by first | exact ⟨oq_17aafd1d g21 hps18 he17 hps14 vs10, oq_805e9ec4 g21 hps18 he17 hps14 he13 vs10⟩ | omega)) rfl (Nat.le_of_ble_eq_true rfl) (fun s26 Is26 Fs26 hps26 => ?_)))
          have Gs26 := fm_tq Fs23 Fs26 rfl rfl
          have JRLx_s26 : RLx s26 := RLx_fm Fs26 (by decide) JRLx_s23
          have JFDA_s26 : FDA B s26 := FDA_fm Fs26 (by decide) JFDA_s23
          have ws26_73 : iI s26 73 = iI s23 73 := fm_iq Fs26 rfl
          have ws26_74 : iI s26 74 = iI s23 74 := fm_iq Fs26 rfl
          have b28 := bi_77 Is26
          have b29 := bi_75 Is26
          have b30 := bi_79 Is26
          have b31 := bi_78 Is26
          have ws26_90 : iI s26 90 = iI s23 90 := fm_iq Fs26 rfl
          have ws26_91 : iI s26 91 = iI s23 91 := fm_iq Fs26 rfl
          have b32 := bi_81 Is26
          have aws26_SWM : SWM s s26 := swm_ts aws23_SWM (swm_fm Fs26 (by decide))
          refine z_aload_n X (x := A 179) rfl (List.Mem.head _) (z_const X rfl (s_putI X 179 rfl (c518_ok rfl) rfl rfl (by decide) rfl rfl rfl (wd_gen (fun s33 hs33 => ?_))))
          have Is33 : Bd s33 := eqB hs33 (bd_I Is26 (show (0 : Int) ≤ 1 ∧ 1 ≤ 24 by first | exact ⟨by decide, by decide⟩ | omega) (by decide))
          have Fs33 := eqF hs33 (fm_I Gs26 (inl_ok (a := 91) rfl))
          have vs33 : iI s33 91 = 1 := eqI hs33 (iI_u (by decide))
          have ws33_73 : iI s33 73 = iI s26 73 := eqI hs33 rfl
          have ws33_74 : iI s33 74 = iI s26 74 := eqI hs33 rfl
          have ws33_77 : iI s33 77 = iI s26 77 := eqI hs33 rfl
          have ws33_75 : iI s33 75 = iI s26 75 := eqI hs33 rfl
          have ws33_79 : iI s33 79 = iI s26 79 := eqI hs33 rfl
          have ws33_78 : iI s33 78 = iI s26 78 := eqI hs33 rfl
          have ws33_90 : iI s33 90 = iI s26 90 := eqI hs33 rfl
          have ws33_81 : iI s33 81 = iI s26 81 := eqI hs33 rfl
          have aws33_SWM : SWM s s33 := by rw [hs33]; exact aws26_SWM
          have fs33 : Fm [91] [] s26 s33 := by rw [hs33]; exact fm_I (fm_rf _ _ _) (show 91 ∈ _ by decide)
          have JRLx_s33 : RLx s33 := RLx_fm fs33 (by decide) JRLx_s26
          have JFDA_s33 : FDA B s33 := FDA_fm fs33 (by decide) JFDA_s26
          refine z_aload_n X (x := A 179) rfl (List.Mem.head _) (s_getR X 179 rfl (c518_ok rfl) rfl rfl (z_const X rfl (z_aload_n X (x := A 179) rfl (List.Mem.head _) (z_const X rfl (z_bipush X rfl ?_)))))
          have JFs33 : FDB B x s33 := ⟨fda_n JFDA_s33 (by first | (clear g25 hps18 he17 hps14 he13; omega) | (clear hps18 he17 hps14 he13; omega) | omega) (by first | (clear g25 hps18 he17 hps14 he13; omega) | (clear hps18 he17 hps14 he13; omega) | omega), by first | (clear g25 hps18 he17 hps14 he13; omega) | (clear hps18 he17 hps14 he13; omega) | omega, by first | (clear g25 hps18 he17 hps14 he13; omega) | (clear hps18 he17 hps14 he13; omega) | omega⟩
          refine zcV_i1 X E 179 (As := [.int (Int32.ofInt 0), .int (Int32.ofInt 127)]) (st := [.int (Int32.ofInt 0), .ref (A 188)]) rfl rfl rfl rfl (k_number2 G Is33 JFs33 (by first | exact ⟨by decide, by decide⟩ | omega) (by first | exact ⟨by decide, by decide⟩ | omega) (by first | exact oq_c2d9d76f ws33_77 hps26.2.1 | omega)) rfl (Nat.le_of_ble_eq_true rfl) (fun s34 e35 Is34 Fs34 JFDB_s34 hrs34 hps34 => ?_)
          have hps34p := And.intro hps34.1 (hps34.2.1)
          have Gs34 := fm_tq Fs33 Fs34 rfl rfl
          have JRLx_s34 : RLx s34 := RLx_fm Fs34 (by decide) JRLx_s33
          have JFDA_s34 : FDA B s34 := FDA_fm Fs34 (by decide) JFDA_s33
          have JFDB_s34 : FDB B x s34 := FDB_fm Fs34 (by decide) JFs33
          have ws34_73 : iI s34 73 = iI s33 73 := fm_iq Fs34 rfl
          have ws34_74 : iI s34 74 = iI s33 74 := fm_iq Fs34 rfl
          have b36 := bi_77 Is34
          have ws34_75 : iI s34 75 = iI s33 75 := fm_iq Fs34 rfl
          have b37 := bi_79 Is34
          have ws34_78 : iI s34 78 = iI s33 78 := fm_iq Fs34 rfl
          have ws34_90 : iI s34 90 = iI s33 90 := fm_iq Fs34 rfl
          have ws34_91 : iI s34 91 = iI s33 91 := fm_iq Fs34 rfl
          have ws34_81 : iI s34 81 = iI s33 81 := fm_iq Fs34 rfl
          have aws34_SWM : SWM s s34 := swm_ts aws33_SWM (swm_fm Fs34 (by decide))
          refine z_ast X 188 rfl (c518_ok rfl) rfl (by decide) (show 0 < 24 by decide) (cbig_ok rfl) (wd_gen (fun s38 hs38 => ?_))
          have Is38 : Bd s38 := eqB hs38 (bd_C Is34 (show ((-2147483648) : Int) ≤ e35 ∧ e35 ≤ 2147483647 by first | (clear hps34 g25 hps18 he17 hps14 he13; omega) | (clear g25 hps18 he17 hps14 he13; omega) | omega) hrs34)
          have Fs38 := eqF hs38 (fm_C Gs34 (inl_ok (a := 165) rfl))
          have ws38_73 : iI s38 73 = iI s34 73 := eqI hs38 rfl
          have ws38_74 : iI s38 74 = iI s34 74 := eqI hs38 rfl
          have ws38_77 : iI s38 77 = iI s34 77 := eqI hs38 rfl
          have ws38_75 : iI s38 75 = iI s34 75 := eqI hs38 rfl
          have ws38_79 : iI s38 79 = iI s34 79 := eqI hs38 rfl
          have ws38_78 : iI s38 78 = iI s34 78 := eqI hs38 rfl
          have ws38_90 : iI s38 90 = iI s34 90 := eqI hs38 rfl
          have ws38_91 : iI s38 91 = iI s34 91 := eqI hs38 rfl
          have ws38_81 : iI s38 81 = iI s34 81 := eqI hs38 rfl
          have aws38_SWM : SWM s s38 := swm_ts aws34_SWM (swm_fm (L := []) (M := [165]) (by rw [hs38]; exact fm_C (fm_rf _ _ _) (List.Mem.head _)) (by decide))
          have fs38 : Fm [] [165] s34 s38 := by rw [hs38]; exact fm_C (fm_rf _ _ _) (show 165 ∈ _ by decide)
          have JRLx_s38 : RLx s38 := RLx_fm fs38 (by decide) JRLx_s34
          have JFDA_s38 : FDA B s38 := FDA_fm fs38 (by decide) JFDA_s34
          refine z_aload_n X (x := A 179) rfl (List.Mem.head _) ?_
          have JFs38 : FDB B x s38 := ⟨fda_n JFDA_s38 (by first | (clear hps34 g25 hps18 he17 hps14 he13; omega) | (clear g25 hps18 he17 hps14 he13; omega) | omega) (by first | (clear hps34 g25 hps18 he17 hps14 he13; omega) | (clear g25 hps18 he17 hps14 he13; omega) | omega), by first | (clear hps34 g25 hps18 he17 hps14 he13; omega) | (clear g25 hps18 he17 hps14 he13; omega) | omega, by first | (clear hps34 g25 hps18 he17 hps14 he13; omega) | (clear g25 hps18 he17 hps14 he13; omega) | omega⟩
          refine zcV_v1 X E 179 (As := []) (st := []) rfl rfl rfl rfl (k_blanks2 G Is38 JFs38 (by first | (clear hps34 g25 hps18 he17 hps14 he13; omega) | (clear g25 hps18 he17 hps14 he13; omega) | omega)) rfl (Nat.le_of_ble_eq_true rfl) (fun s39 Is39 Fs39 JFDB_s39 hps39 => ?_)
          have hps39p := And.intro hps39.1 (hps39.2.1)
          have Gs39 := fm_tq Fs38 Fs39 rfl rfl
          have JRLx_s39 : RLx s39 := RLx_fm Fs39 (by decide) JRLx_s38
          have JFDA_s39 : FDA B s39 := FDA_fm Fs39 (by decide) JFDA_s38
          have JFDB_s39 : FDB B x s39 := FDB_fm Fs39 (by decide) JFs38
          have ws39_73 : iI s39 73 = iI s38 73 := fm_iq Fs39 rfl
          have ws39_74 : iI s39 74 = iI s38 74 := fm_iq Fs39 rfl
          have b41 := bi_77 Is39
          have ws39_75 : iI s39 75 = iI s38 75 := fm_iq Fs39 rfl
          have ws39_79 : iI s39 79 = iI s38 79 := fm_iq Fs39 rfl
          have ws39_78 : iI s39 78 = iI s38 78 := fm_iq Fs39 rfl
          have ws39_90 : iI s39 90 = iI s38 90 := fm_iq Fs39 rfl
          have ws39_91 : iI s39 91 = iI s38 91 := fm_iq Fs39 rfl
          have ws39_81 : iI s39 81 = iI s38 81 := fm_iq Fs39 rfl
          have aws39_SWM : SWM s s39 := swm_ts aws38_SWM (swm_fm Fs39 (by decide))
          refine WS_pq [0, 1] (lv' := [(0, .ref (A 179)), (1, .int (Int32.ofInt x))]) rfl ?_
          have hnu : NUR B x 0 0 127 e35 0 (iI s34 79) (iI s34 77) := by
            have z := hps34.1
            rwa [show iI s33 77 = 0 by first | (clear hps39 hps34 g25 hps18 he17 hps14 he13; omega) | (clear hps34 g25 hps18 he17 hps14 he13; omega) | omega, show iI s33 79 = 0 by first | (clear hps39 hps34 g25 hps18 he17 hps14 he13; omega) | (clear hps34 g25 hps18 he17 hps14 he13; omega) | omega] at z
          have hnv := nur_v hnu
          have hD43 : TDF s39 := fun hz i hi => by
            have e0 : iI s39 91 = 1 := by first | (clear hps39 hps34 g25 hps18 he17 hps14 he13; omega) | (clear hps34 g25 hps18 he17 hps14 he13; omega) | omega
            have e1 : i = 0 := by first | (clear hps39 hps34 g25 hps18 he17 hps14 he13; omega) | (clear hps34 g25 hps18 he17 hps14 he13; omega) | omega
            subst e1
            rw [fm_c Fs39 (by decide), hs38]
            show 0 ≤ iC (uC s34 165 (0 : Int).toNat (Int32.ofInt e35)) 165 (0 : Int).toNat ∧ iC (uC s34 165 (0 : Int).toNat (Int32.ofInt e35)) 165 (0 : Int).toNat ≤ 127
            rw [iC_u ⟨by first | (clear hps39 hps34 g25 hps18 he17 hps14 he13; omega) | (clear hps34 g25 hps18 he17 hps14 he13; omega) | omega, by first | (clear hps39 hps34 g25 hps18 he17 hps14 he13; omega) | (clear hps34 g25 hps18 he17 hps14 he13; omega) | omega⟩]
            omega
          have hW44 : WMQ B x s39 := wm_0 hnu (by first | (clear hps39 hps34 g25 hps18 he17 hps14 he13; omega) | (clear hps34 g25 hps18 he17 hps14 he13; omega) | omega) (by rw [hps39.1, show iI s38 77 = iI s34 77 by first | (clear hps39 hps34 g25 hps18 he17 hps14 he13; omega) | (clear hps34 g25 hps18 he17 hps14 he13; omega) | omega]) (by first | (clear hps39 hps34 g25 hps18 he17 hps14 he13; omega) | (clear hps34 g25 hps18 he17 hps14 he13; omega) | omega) (ag_sam (s := s38) (by rw [hs38]; exact ag_u1 (by first | (clear hps39 hps34 g25 hps18 he17 hps14 he13; omega) | (clear hps34 g25 hps18 he17 hps14 he13; omega) | omega) (by first | (clear hps39 hps34 g25 hps18 he17 hps14 he13; omega) | (clear hps34 g25 hps18 he17 hps14 he13; omega) | omega)) (sam_fm Fs39 (by decide)) (by first | (clear hps39 hps34 g25 hps18 he17 hps14 he13; omega) | (clear hps34 g25 hps18 he17 hps14 he13; omega) | omega))
          refine L94 ((400 - iI s39 77 + (9 - iI s39 79) : Int).toNat + 1) s39 x Is39 Gs39 JRLx_s39 JFDA_s39 ⟨⟨hD43, hW44⟩, aws39_SWM⟩ (by first | exact ⟨oq_650b79d5 g21 hps18 he17 hps14 he13 ws10_74 vs10, oq_fe2501c1 ws39_74 ws38_74 ws34_74 ws33_74 ws26_74 ws23_74 vs22, oq_b4d295d9 ws39_75 hps26.1 ws38_75 ws34_75 ws33_75, by first | (clear hps39 hps34 g25 hps18 he17 hps14 he13; omega) | (clear hps34 g25 hps18 he17 hps14 he13; omega) | omega, by first | (clear hps39 hps34 g25 hps18 he17 hps14 he13; omega) | (clear hps34 g25 hps18 he17 hps14 he13; omega) | omega, oq_3a510cc0 ws39_91 ws38_91 ws34_91 vs33, oq_52ce8ea5 ws39_90 ws38_90 ws34_90 ws33_90 ws26_90 ws23_90 ws22_90 ws18_90 ws10_90, oq_5c6f094b g25 b24.2 ws23_90 ws22_90 ws18_90 ws10_90, oq_d0299403 ws39_81 ws38_81 ws34_81 ws33_81 hps26.2.2.2.2 b32.1, oq_6da3e861 ws39_73 ws38_73 ws34_73 ws33_73 ws26_73 ws23_73 ws22_73 g21 b20.1 hps18 vs10⟩ | omega) (Nat.lt_succ_self _) ?_
          intro s42  Is42 Fs42 JRLx_s42 JFDA_s42 Qs42 hs42
          have b45 := bi_73 Is42
          have b46 := bi_74 Is42
          have b47 := bi_77 Is42
          have b48 := bi_75 Is42
          have b49 := bi_79 Is42
          have b50 := bi_78 Is42
          have b51 := bi_90 Is42
          have b52 := bi_91 Is42
          have b53 := bi_81 Is42
          have qa54 := Qs42.1
          have qw55 := Qs42.2
          have hTDF : TDF s42 := qa54.1
          refine z_aload_n X (x := A 179) rfl (List.Mem.head _) (z_aload_n X (x := A 179) rfl (List.Mem.head _) (z_getI X 179 rfl (c518_ok rfl) rfl rfl ?_))
          have b56 := bi_80 Is42
          refine s_putI X 179 rfl (c518_ok rfl) rfl rfl (by decide) rfl rfl rfl (wd_gen (fun s57 hs57 => ?_))
          have Is57 : Bd s57 := eqB hs57 (bd_I Is42 (show ((-1) : Int) ≤ (iI s42 80) ∧ (iI s42 80) ≤ 400 by first | exact ⟨b56.1, b56.2⟩ | omega) (rng_to _))
          have Fs57 := eqF hs57 (fm_I Fs42 (inl_ok (a := 76) rfl))
          have vs57 : iI s57 76 = (iI s42 80) := eqI hs57 (iI_u (rng_to _))
          have ws57_73 : iI s57 73 = iI s42 73 := eqI hs57 rfl
          have ws57_74 : iI s57 74 = iI s42 74 := eqI hs57 rfl
          have ws57_77 : iI s57 77 = iI s42 77 := eqI hs57 rfl
          have ws57_75 : iI s57 75 = iI s42 75 := eqI hs57 rfl
          have ws57_79 : iI s57 79 = iI s42 79 := eqI hs57 rfl
          have ws57_78 : iI s57 78 = iI s42 78 := eqI hs57 rfl
          have ws57_90 : iI s57 90 = iI s42 90 := eqI hs57 rfl
          have ws57_91 : iI s57 91 = iI s42 91 := eqI hs57 rfl
          have ws57_81 : iI s57 81 = iI s42 81 := eqI hs57 rfl
          have aws57_SWM : SWM s s57 := by rw [hs57]; exact qw55
          have fs57 : Fm [76] [] s42 s57 := by rw [hs57]; exact fm_I (fm_rf _ _ _) (show 76 ∈ _ by decide)
          have JRLx_s57 : RLx s57 := RLx_fm fs57 (by decide) JRLx_s42
          have JFDA_s57 : FDA B s57 := FDA_fm fs57 (by decide) JFDA_s42
          have hTDF2 : TDF s57 := fun z => TD_fm fs57 (by decide) (hTDF (by first | (clear hps39 hps34 g25 hps18 he17 hps14 he13; omega) | (clear hps34 g25 hps18 he17 hps14 he13; omega) | omega))
          refine z_aload_n X (x := A 179) rfl (List.Mem.head _) (z_getI X 179 rfl (c518_ok rfl) rfl rfl ?_)
          have b58 := bi_79 Is57
          refine z_if_eq X (t := 146) rfl rfl (rng_to _) (fun g59 => ?_) (fun g59 => ?_)
          ·
            have JTD_s57 : TD s57 := hTDF2 (by first | (clear hps39 hps34 g25 hps18 he17 hps14 he13; omega) | (clear hps34 g25 hps18 he17 hps14 he13; omega) | omega)
            have hyes : ∃ a, parseT B x = some a := by obtain ⟨a9, z9, -⟩ := wm_end qa54.2 (by first | (clear hps39 hps34 g25 hps18 he17 hps14 he13; omega) | (clear hps34 g25 hps18 he17 hps14 he13; omega) | omega) (by first | (clear hps39 hps34 g25 hps18 he17 hps14 he13; omega) | (clear hps34 g25 hps18 he17 hps14 he13; omega) | omega); exact ⟨a9, z9⟩
            have hyw : ∃ a, parseT B x = some a ∧ AGx 165 91 a s57 ∧ (1 ≤ a.1 ∧ a.1 ≤ 24) := by obtain ⟨a9, z1, z2, z3⟩ := wm_end qa54.2 (by first | (clear hps39 hps34 g25 hps18 he17 hps14 he13; omega) | (clear hps34 g25 hps18 he17 hps14 he13; omega) | omega) (by first | (clear hps39 hps34 g25 hps18 he17 hps14 he13; omega) | (clear hps34 g25 hps18 he17 hps14 he13; omega) | omega); exact ⟨a9, z1, ag_sam z2 (sam_fm fs57 (by decide)) (by first | (clear hps39 hps34 g25 hps18 he17 hps14 he13; omega) | (clear hps34 g25 hps18 he17 hps14 he13; omega) | omega), z3⟩
            refine z_aload_n X (x := A 179) rfl (List.Mem.head _) (s_getR X 179 rfl (c518_ok rfl) rfl rfl (z_aload_n X (x := A 179) rfl (List.Mem.head _) (z_getI X 179 rfl (c518_ok rfl) rfl rfl ?_)))
            have b60 := bi_90 Is57
            refine z_aload_n X (x := A 179) rfl (List.Mem.head _) (z_getI X 179 rfl (c518_ok rfl) rfl rfl ?_)
            have b61 := bi_91 Is57
            refine z_ast X 185 rfl (c518_ok rfl) rfl (by first | exact b60.1 | omega) (show (iI s57 90) < 12 by first | exact oq_e2284db0 ws57_90 hs42.2.2.2.2.2.2.1 hs42.2.2.2.2.2.2.2.1 | omega) (cbig_ok rfl) (wd_gen (fun s62 hs62 => ?_))
            have Is62 : Bd s62 := eqB hs62 (bd_C Is57 (show (0 : Int) ≤ (iI s57 91) ∧ (iI s57 91) ≤ 24 by first | exact ⟨b61.1, b61.2⟩ | omega) (rng_to _))
            have Fs62 := eqF hs62 (fm_C Fs57 (inl_ok (a := 162) rfl))
            have ws62_73 : iI s62 73 = iI s57 73 := eqI hs62 rfl
            have ws62_74 : iI s62 74 = iI s57 74 := eqI hs62 rfl
            have ws62_77 : iI s62 77 = iI s57 77 := eqI hs62 rfl
            have ws62_75 : iI s62 75 = iI s57 75 := eqI hs62 rfl
            have ws62_79 : iI s62 79 = iI s57 79 := eqI hs62 rfl
            have ws62_78 : iI s62 78 = iI s57 78 := eqI hs62 rfl
            have ws62_90 : iI s62 90 = iI s57 90 := eqI hs62 rfl
            have ws62_91 : iI s62 91 = iI s57 91 := eqI hs62 rfl
            have ws62_81 : iI s62 81 = iI s57 81 := eqI hs62 rfl
            have fs62 : Fm [] [162] s57 s62 := by rw [hs62]; exact fm_C (fm_rf _ _ _) (show 162 ∈ _ by decide)
            have JFDA_s62 : FDA B s62 := FDA_fm fs62 (by decide) JFDA_s57
            have JTD_s62 : TD s62 := TD_fm fs62 (by decide) JTD_s57
            have es_s62 : iI s57 90 = iI s 90 := by first | (clear hps39 hps34 g25 hps18 he17 hps14 he13; omega) | (clear hps34 g25 hps18 he17 hps14 he13; omega) | omega
            have JRLx_s62 : RLx s62 := by rw [hs62]; exact RLx_m JRLx_s57 (by first | (clear hps39 hps34 g25 hps18 he17 hps14 he13; omega) | (clear hps34 g25 hps18 he17 hps14 he13; omega) | omega)
            have vm_s62 : iC s62 162 (iI s 90 : Int).toNat = iI s57 91 := by rw [hs62, es_s62, iC_u ⟨by first | (clear hps39 hps34 g25 hps18 he17 hps14 he13; omega) | (clear hps34 g25 hps18 he17 hps14 he13; omega) | omega, by first | (clear hps39 hps34 g25 hps18 he17 hps14 he13; omega) | (clear hps34 g25 hps18 he17 hps14 he13; omega) | omega⟩]
            have hWf : WFM B x (iI s 90) 0 s s62 := wfm_0 hyw aws57_SWM (by first | (clear hps39 hps34 g25 hps18 he17 hps14 he13; omega) | (clear hps34 g25 hps18 he17 hps14 he13; omega) | omega) rfl (by rw [hs62, es_s62]) (by first | (clear hps39 hps34 g25 hps18 he17 hps14 he13; omega) | (clear hps34 g25 hps18 he17 hps14 he13; omega) | omega)
            refine z_const X rfl (z_store_n X (lv' := [(2, .int (Int32.ofInt 0)), (0, .ref (A 179)), (1, .int (Int32.ofInt x))]) rfl (by decide) (fun _ h => h) (WS_pq [1, 2, 0] (lv' := [(0, .ref (A 179)), (1, .int (Int32.ofInt x)), (2, .int (Int32.ofInt 0))]) rfl (L161 ((128 - 0 : Int).toNat + 1) s62 x 0 Is62 Fs62 JRLx_s62 JFDA_s62 ⟨⟨JTD_s62, JRLx_s62, fun i _ h => absurd h (by first | (clear hps39 hps34 g25 hps18 he17 hps14 he13; omega) | (clear hps34 g25 hps18 he17 hps14 he13; omega) | omega)⟩, ⟨hWf, fun j hj => absurd hj (by first | (clear hps39 hps34 g25 hps18 he17 hps14 he13; omega) | (clear hps34 g25 hps18 he17 hps14 he13; omega) | omega)⟩⟩ (by first | exact ⟨And.intro (hs42.1.1) (And.intro (hs42.1.2.1) (hs42.1.2.2)), oq_7fe879e0 ws62_74 ws57_74 hs42.2.1 b46.1, oq_48a46d4a ws62_91 ws57_91 hs42.2.2.2.2.2.1, oq_1aa5be9e ws62_90 es_s62, hs42.2.2.2.2.2.2.2.1, by decide, by decide, oq_f6b042d5 ws62_91 vm_s62, oq_7fe879e0 ws62_73 ws57_73 hs42.2.2.2.2.2.2.2.2.2.1 b45.1⟩ | omega) (Nat.lt_succ_self _) ?_)))
            intro s63 x64 Is63 Fs63 JRLx_s63 JFDA_s63 Qs63 hs63
            have b65 := bi_73 Is63
            have b66 := bi_74 Is63
            have b67 := bi_77 Is63
            have b68 := bi_75 Is63
            have b69 := bi_79 Is63
            have b70 := bi_78 Is63
            have b71 := bi_90 Is63
            have b72 := bi_91 Is63
            have b73 := bi_81 Is63
            have qa74 := Qs63.1
            have qw75 := Qs63.2
            refine z_const X rfl (z_store_n X (lv' := [(2, .int (Int32.ofInt 0)), (0, .ref (A 179)), (1, .int (Int32.ofInt x))]) rfl (by decide) (fun _ h => h) (WS_pq [1, 2, 0] (lv' := [(0, .ref (A 179)), (1, .int (Int32.ofInt x)), (2, .int (Int32.ofInt 0))]) rfl (L188 ((24 - 0 : Int).toNat + 1) s63 x 0 Is63 Fs63 JRLx_s63 JFDA_s63 ⟨⟨qa74.1, qa74.2.1, fun i hi _ => qa74.2.2 i hi (by first | (clear hps39 hps34 g25 hps18 he17 hps14 he13; omega) | (clear hps34 g25 hps18 he17 hps14 he13; omega) | omega)⟩, ⟨qw75.1, lfp_0 qw75.2 (by first | (clear hps39 hps34 g25 hps18 he17 hps14 he13; omega) | (clear hps34 g25 hps18 he17 hps14 he13; omega) | omega)⟩⟩ (by first | exact ⟨And.intro (hs63.1.1) (And.intro (hs63.1.2.1) (hs63.1.2.2)), hs63.2.1, hs63.2.2.1, hs63.2.2.2.1, hs63.2.2.2.2.1, by decide, by decide, hs63.2.2.2.2.2.2.1, hs63.2.2.2.2.2.2.2⟩ | omega) (Nat.lt_succ_self _) ?_)))
            intro s76 x77 Is76 Fs76 JRLx_s76 JFDA_s76 Qs76 hs76
            have b78 := bi_73 Is76
            have b79 := bi_74 Is76
            have b80 := bi_77 Is76
            have b81 := bi_75 Is76
            have b82 := bi_79 Is76
            have b83 := bi_78 Is76
            have b84 := bi_90 Is76
            have b85 := bi_91 Is76
            have b86 := bi_81 Is76
            have qa87 := Qs76.1
            have qw88 := Qs76.2
            refine z_aload_n X (x := A 179) rfl (List.Mem.head _) (w_dup X.1 (ax_d X (show cdA 200 237 = some (.dup, 1, 0, 0, 0) from rfl)) rfl (z_getI X 179 rfl (c518_ok rfl) rfl rfl ?_))
            have b89 := bi_90 Is76
            refine z_const X rfl (z_add X rfl (s_putI X 179 rfl (c518_ok rfl) rfl rfl (by decide) rfl rfl rfl (wd_gen (fun s90 hs90 => ?_))))
            have Is90 : Bd s90 := eqB hs90 (bd_I Is76 (show (0 : Int) ≤ ((iI s76 90) + 1) ∧ ((iI s76 90) + 1) ≤ 12 by first | exact ⟨oq_54f49eb5 b89.1, oq_6a44be7e hs76.2.2.2.1 hs76.2.2.2.2.1⟩ | omega) ⟨by first | exact oq_74de1e16 b89.1 | omega, by first | exact oq_76a8a5b7 b89.2 | omega⟩)
            have Fs90 := eqF hs90 (fm_I Fs76 (inl_ok (a := 90) rfl))
            have vs90 : iI s90 90 = ((iI s76 90) + 1) := eqI hs90 (iI_u ⟨by first | exact oq_74de1e16 b89.1 | omega, by first | exact oq_76a8a5b7 b89.2 | omega⟩)
            have ws90_73 : iI s90 73 = iI s76 73 := eqI hs90 rfl
            have ws90_74 : iI s90 74 = iI s76 74 := eqI hs90 rfl
            have ws90_77 : iI s90 77 = iI s76 77 := eqI hs90 rfl
            have ws90_75 : iI s90 75 = iI s76 75 := eqI hs90 rfl
            have ws90_79 : iI s90 79 = iI s76 79 := eqI hs90 rfl
            have ws90_78 : iI s90 78 = iI s76 78 := eqI hs90 rfl
            have ws90_91 : iI s90 91 = iI s76 91 := eqI hs90 rfl
            have ws90_81 : iI s90 81 = iI s76 81 := eqI hs90 rfl
            have fs90 : Fm [90] [] s76 s90 := by rw [hs90]; exact fm_I (fm_rf _ _ _) (show 90 ∈ _ by decide)
            have JFDA_s90 : FDA B s90 := FDA_fm fs90 (by decide) JFDA_s76
            have JRLx_s90 : RLx s90 := by
              rw [hs90]
              exact RLx_up qa87.2.1 rfl (by first | (clear hps39 hps34 g25 hps18 he17 hps14 he13; omega) | (clear hps34 g25 hps18 he17 hps14 he13; omega) | omega) (by rw [show iI s76 90 = iI s 90 by first | (clear hps39 hps34 g25 hps18 he17 hps14 he13; omega) | (clear hps34 g25 hps18 he17 hps14 he13; omega) | omega]; omega) (fun i hi => by rw [show iI s76 90 = iI s 90 by first | (clear hps39 hps34 g25 hps18 he17 hps14 he13; omega) | (clear hps34 g25 hps18 he17 hps14 he13; omega) | omega]; exact qa87.2.2 i hi (by first | (clear hps39 hps34 g25 hps18 he17 hps14 he13; omega) | (clear hps34 g25 hps18 he17 hps14 he13; omega) | omega))
            have hWz : WFM B x (iI s 90) 24 s s90 := by rw [hs90]; exact wfm_I (wfm_end qw88.1 (by first | (clear hps39 hps34 g25 hps18 he17 hps14 he13; omega) | (clear hps34 g25 hps18 he17 hps14 he13; omega) | omega))
            have hLz : LFP B x (iI s 90) 24 s90 := by rw [hs90]; exact lfp_I (lfp_end qw88.1 qw88.2 (by first | (clear hps39 hps34 g25 hps18 he17 hps14 he13; omega) | (clear hps34 g25 hps18 he17 hps14 he13; omega) | omega))
            refine z_aload_n X (x := A 179) rfl (List.Mem.head _) (z_getI X 179 rfl (c518_ok rfl) rfl rfl ?_)
            have b91 := bi_90 Is90
            refine z_const X rfl (z_sub X rfl ?_)
            exact w_iret X.1 q hRt rfl (ax_d X (show cdA 200 252 = some (.ireturn, 1, 0, 0, 0) from rfl)) (Nat.zero_le _) (Nat.zero_le _) ⟨_, rfl, Is90, Fs90, JRLx_s90, JFDA_s90, ((iI s90 90) - 1), rfl, ⟨by first | exact oq_c1e961c7 b91.1 | omega, by first | exact oq_d526ebd3 b91.2 | omega⟩, ⟨Or.inl ⟨⟨by first | exact hs76.1.1 | omega, by first | exact hs76.1.2.1 | omega, by first | exact hs76.1.2.2 | omega, by first | exact oq_333640b7 ws90_74 hs76.2.1 b79.1 | omega, by first | exact oq_333640b7 ws90_73 hs76.2.2.2.2.2.2.2.2.1 b78.1 | omega⟩, Or.inr ⟨by first | (clear hps39 hps34 g25 hps18 he17 hps14 he13; omega) | (clear hps34 g25 hps18 he17 hps14 he13; omega) | omega, Or.inr ⟨hyes, by first | (clear hps39 hps34 g25 hps18 he17 hps14 he13; omega) | (clear hps34 g25 hps18 he17 hps14 he13; omega) | omega⟩⟩⟩, Or.inr ⟨by first | (clear hps39 hps34 g25 hps18 he17 hps14 he13; omega) | (clear hps34 g25 hps18 he17 hps14 he13; omega) | omega, hWz, hLz⟩⟩⟩
          ·
            refine z_aload_n X (x := A 179) rfl (List.Mem.head _) (z_getI X 179 rfl (c518_ok rfl) rfl rfl ?_)
            have b92 := bi_79 Is57
            refine z_bipush X rfl (z_sub X rfl ?_)
            exact w_iret X.1 q hRt rfl (ax_d X (show cdA 200 145 = some (.ireturn, 1, 0, 0, 0) from rfl)) (Nat.zero_le _) (Nat.zero_le _) ⟨_, rfl, Is57, Fs57, JRLx_s57, JFDA_s57, ((iI s57 79) - 10), rfl, ⟨by first | exact oq_d3c9ade5 b92.1 | omega, by first | exact oq_71609f9f b92.2 | omega⟩, ⟨Or.inl ⟨⟨by first | exact hs42.1.1 | omega, by first | exact hs42.1.2.1 | omega, by first | exact hs42.1.2.2 | omega, by first | exact oq_333640b7 ws57_74 hs42.2.1 b46.1 | omega, by first | exact oq_333640b7 ws57_73 hs42.2.2.2.2.2.2.2.2.2.1 b45.1 | omega⟩, Or.inr ⟨by first | (clear g59 hps39 hps34 g25 hps18 he17 hps14 he13; omega) | (clear hps39 hps34 g25 hps18 he17 hps14 he13; omega) | omega, Or.inl ⟨wm_no qa54.2 (by first | (clear g59 hps39 hps34 g25 hps18 he17 hps14 he13; omega) | (clear hps39 hps34 g25 hps18 he17 hps14 he13; omega) | omega), by first | (clear g59 hps39 hps34 g25 hps18 he17 hps14 he13; omega) | (clear hps39 hps34 g25 hps18 he17 hps14 he13; omega) | omega⟩⟩⟩, Or.inl ⟨by first | (clear g59 hps39 hps34 g25 hps18 he17 hps14 he13; omega) | (clear hps39 hps34 g25 hps18 he17 hps14 he13; omega) | omega, aws57_SWM⟩⟩⟩
        ·
          refine z_const X rfl ?_
          exact w_iret X.1 q hRt rfl (ax_d X (show cdA 200 66 = some (.ireturn, 1, 0, 0, 0) from rfl)) (Nat.zero_le _) (Nat.zero_le _) ⟨_, rfl, Is23, Fs23, JRLx_s23, JFDA_s23, (-1), rfl, (by decide), ⟨by first | exact Or.inr ⟨by first | (clear hps18 he17 hps14 he13; omega) | (clear he17 hps14 he13; omega) | omega, by first | (clear hps18 he17 hps14 he13; omega) | (clear he17 hps14 he13; omega) | omega, by first | (clear hps18 he17 hps14 he13; omega) | (clear he17 hps14 he13; omega) | omega, by first | (clear hps18 he17 hps14 he13; omega) | (clear he17 hps14 he13; omega) | omega⟩ | exact Or.inl ⟨⟨by first | (clear hps18 he17 hps14 he13; omega) | (clear he17 hps14 he13; omega) | omega, by first | (clear hps18 he17 hps14 he13; omega) | (clear he17 hps14 he13; omega) | omega, by first | (clear hps18 he17 hps14 he13; omega) | (clear he17 hps14 he13; omega) | omega, by first | (clear hps18 he17 hps14 he13; omega) | (clear he17 hps14 he13; omega) | omega, by first | (clear hps18 he17 hps14 he13; omega) | (clear he17 hps14 he13; omega) | omega⟩, Or.inl ⟨by first | (clear hps18 he17 hps14 he13; omega) | (clear he17 hps14 he13; omega) | omega, by first | (clear hps18 he17 hps14 he13; omega) | (clear he17 hps14 he13; omega) | omega⟩⟩, Or.inl ⟨by first | (clear hps18 he17 hps14 he13; omega) | (clear he17 hps14 he13; omega) | omega, aws23_SWM⟩⟩⟩
      ·
        refine z_const X rfl ?_
        exact w_iret X.1 q hRt rfl (ax_d X (show cdA 200 45 = some (.ireturn, 1, 0, 0, 0) from rfl)) (Nat.zero_le _) (Nat.zero_le _) ⟨_, rfl, Is18, Gs18, JRLx_s18, JFDA_s18, 0, rfl, (by decide), ⟨by first | exact Or.inr ⟨by first | (clear g21 hps18 he17 hps14 he13; omega) | (clear hps18 he17 hps14 he13; omega) | omega, by first | (clear g21 hps18 he17 hps14 he13; omega) | (clear hps18 he17 hps14 he13; omega) | omega, by first | (clear g21 hps18 he17 hps14 he13; omega) | (clear hps18 he17 hps14 he13; omega) | omega, by first | (clear g21 hps18 he17 hps14 he13; omega) | (clear hps18 he17 hps14 he13; omega) | omega⟩ | exact Or.inl ⟨⟨by first | (clear g21 hps18 he17 hps14 he13; omega) | (clear hps18 he17 hps14 he13; omega) | omega, by first | (clear g21 hps18 he17 hps14 he13; omega) | (clear hps18 he17 hps14 he13; omega) | omega, by first | (clear g21 hps18 he17 hps14 he13; omega) | (clear hps18 he17 hps14 he13; omega) | omega, by first | (clear g21 hps18 he17 hps14 he13; omega) | (clear hps18 he17 hps14 he13; omega) | omega, by first | (clear g21 hps18 he17 hps14 he13; omega) | (clear hps18 he17 hps14 he13; omega) | omega⟩, Or.inl ⟨by first | (clear g21 hps18 he17 hps14 he13; omega) | (clear hps18 he17 hps14 he13; omega) | omega, by first | (clear g21 hps18 he17 hps14 he13; omega) | (clear hps18 he17 hps14 he13; omega) | omega⟩⟩, Or.inl ⟨by first | (clear g21 hps18 he17 hps14 he13; omega) | (clear hps18 he17 hps14 he13; omega) | omega, aws18_SWM⟩⟩⟩
    refine z_if_ne X (t := 36) rfl rfl hrs14 (fun g93 => ?_) (fun g93 => ?_)
    ·
      exact z_const X rfl (N16 _ (Or.inl ⟨g93, rfl⟩))
    ·
      exact z_const X rfl (z_goto X (t := 37) rfl rfl (N16 _ (Or.inr (⟨g93, rfl⟩))))
  refine z_icmp_ge X (t := 24) rfl rfl (rng_to _) (by decide) (fun g94 => ?_) (fun g94 => ?_)
  ·
    exact z_bipush X rfl (N12 _ (Or.inl ⟨g94, rfl⟩))
  ·
    refine z_aload_n X (x := A 179) rfl (List.Mem.head _) (z_getI X 179 rfl (c518_ok rfl) rfl rfl ?_)
    have b95 := bi_74 Is10
    exact z_goto X (t := 26) rfl rfl (N12 _ (Or.inr (⟨g94, b95, rfl⟩)))
end M87e
