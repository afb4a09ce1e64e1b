/-! feed, word: both sides -/
theorem u_and255 (v : Int32) {s : Nat} (hs : s ≤ 24) : (v.toUInt32 >>> ((nI s).toUInt32 &&& Int32.toUInt32 31)).toInt32 &&& 255 = (v >>> (nI s &&& 31)) &&& 255 := by
  refine b_ext fun i hi => ?_
  rw [b_and, b_and, b_255, b_ushr s (by omega), b_sshr s (by omega) v hi]
  by_cases h : i < 8
  · rw [if_pos (by omega)]
  · rw [decide_eq_false h, Bool.and_false, Bool.and_false]
theorem by_nar (w : Int32) : ∃ b : Nat, b < 256 ∧ w &&& 255 = nI b ∧ vp_nar .byte w.toInt8.toInt32 = vp_nar .byte (nI b) := by
  refine ⟨w.toBitVec.toNat % 2 ^ 8, Nat.mod_lt _ (by decide), pk_and w 8 rfl, ?_⟩
  rw [← pk_and (m := 255) w 8 rfl]
  show w.toInt8.toInt32.toInt8.toInt32 = (w &&& 255).toInt8.toInt32
  rw [Int32.toInt8_and, show (255 : Int32).toInt8 = -1 from by decide, Int8.and_neg_one]
  simp
section Feed
variable (one other : Int32)
abbrev vvF (i : Nat) : Int32 := if i < 4 then one else other
abbrev ksF (i : Nat) : Nat := 24 - 8 * (i % 4)
def byF (i : Nat) : Int32 := mby (vvF one other i) (nI (ksF i))
theorem fbx_by {i : Nat} (hi : i < 8) : fbx one other i = byF one other i := by
  unfold fbx byF mby
  rw [(by decide +kernel : ∀ i, i < 8 → (24 : Int32) - 8 * (nI i &&& 3) = nI (ksF i)) i hi, u_and255 _ (show ksF i ≤ 24 by unfold ksF; omega)]
def cwF : Nat → Nat → Nat
  | 0, _ => 0
  | m + 1, i => (if byF one other i = 0 then 0 else 1) + cwF m (i + 1)
def mfw : Nat → Nat → Sg → Sg
  | 0, _, z => z
  | m + 1, i, z => mfw m (i + 1) (mf1 z (vvF one other i) (nI (ksF i)))
theorem mfw_eq (z : Sg) : mfw one other 8 0 z = mf4 (mf4 z one) other := rfl
theorem cw_eq : mbc one + mbc other = cwF one other 8 0 := by
  show mbc one + mbc other = (if mby one 24 = 0 then 0 else 1) + ((if mby one 16 = 0 then 0 else 1) + ((if mby one 8 = 0 then 0 else 1) + ((if mby one 0 = 0 then 0 else 1) + ((if mby other 24 = 0 then 0 else 1) + ((if mby other 16 = 0 then 0 else 1) + ((if mby other 8 = 0 then 0 else 1) + ((if mby other 0 = 0 then 0 else 1) + 0)))))))
  unfold mbc
  omega
theorem cfb_cw : ∀ (m i c : Nat), i + m = 8 → cfb one other m i c = c + cwF one other m i
  | 0, _, _, _ => rfl
  | m + 1, i, c, h => by
    rw [cfb, cwF, fbx_by one other (by omega), cfb_cw m (i + 1) _ (by omega)]
    by_cases e : byF one other i = 0
    · rw [if_pos e, if_pos e]
      omega
    · rw [if_neg e, if_neg e]
      omega
theorem mfw_0 : ∀ (m i : Nat) (z : Sg), cwF one other m i = 0 → mfw one other m i z = z
  | 0, _, _, _ => rfl
  | m + 1, i, z, h => by
    rw [cwF] at h
    have e : byF one other i = 0 := by
      by_cases e : byF one other i = 0
      · exact e
      · rw [if_neg e] at h
        omega
    rw [if_pos e] at h
    rw [mfw, mf1, if_pos (show mby (vvF one other i) (nI (ksF i)) = 0 from e), mfw_0 m (i + 1) z (by omega)]
theorem feed_ok : ∀ (k i : Nat) (d m : Sg) (t : Nat), i + k = 8 → PR d m t → t + cwF one other k i ≤ 26 → PR (wfb one other k i d) (mfw one other k i m) (t + cwF one other k i)
  | 0, _, _, _, _, _, h, _ => h
  | k + 1, i, d, m, t, hi, h, hle => by
    obtain ⟨a1, a2, a3, a4⟩ := h
    rw [wfb, a1, fbx_by one other (by omega)]
    by_cases h26 : t = 26
    · have h0 : cwF one other (k + 1) i = 0 := by omega
      rw [if_pos (show (26 : Int32) ≤ nI t from nI_le (a := 26) (by omega) (by omega)), mfw_0 one other (k + 1) i m h0, h0]
      exact ⟨a1, a2, a3, a4⟩
    · rw [if_neg (show ¬ (26 : Int32) ≤ nI t from nI_ge (b := 26) (by omega) (by omega)), mfw, mf1]
      rw [cwF] at hle ⊢
      by_cases e : byF one other i = 0
      · rw [if_pos e, if_pos (show mby (vvF one other i) (nI (ksF i)) = 0 from e)]
        rw [if_pos e] at hle ⊢
        rw [Nat.zero_add] at hle ⊢
        exact feed_ok k (i + 1) d m t (by omega) ⟨a1, a2, a3, a4⟩ hle
      · rw [if_neg e, if_neg (show ¬ mby (vvF one other i) (nI (ksF i)) = 0 from e)]
        rw [if_neg e] at hle ⊢
        rw [show t + (1 + cwF one other k (i + 1)) = t + 1 + cwF one other k (i + 1) by omega]
        refine feed_ok k (i + 1) _ _ (t + 1) (by omega) ⟨?_, ?_, by omega, fun j hj => ?_⟩ (by omega)
        · rw [F_self, nI_1]
        · rw [F_self, a2, nI_1]
        · show ∃ b : Nat, b < 256 ∧ upd (d.A 23) (nI t).toNatClampNeg (byF one other i) j = nI b ∧ upd (m.A 54) (m.F 39 31).toNatClampNeg (vp_nar .byte (vvF one other i >>> (nI (ksF i) &&& 31)).toInt8.toInt32) j = vp_nar .byte (nI b)
          rw [a2, nI_clamp (by omega)]
          by_cases e2 : j = t
          · rw [e2, pk_us, pk_us]
            exact by_nar _
          · rw [pk_un e2, pk_un e2]
            exact a4 j (by omega)
theorem A_wfb {a : Nat} (h : ¬ a = 23) : ∀ (m i : Nat) (z : Sg), (wfb one other m i z).A a = z.A a
  | 0, _, _ => rfl
  | m + 1, i, z => by
    rw [wfb]
    split
    · rfl
    · rw [A_wfb h]
      split
      · rfl
      · rw [A_stF, A_stA, if_neg h]
theorem Fi_wfb {a : Nat} (h : ¬ a = 22) : ∀ (m i : Nat) (z : Sg), (wfb one other m i z).F a = z.F a
  | 0, _, _ => rfl
  | m + 1, i, z => by
    rw [wfb]
    split
    · rfl
    · rw [Fi_wfb h]
      split
      · rfl
      · rw [Fi_stF _ _ _ _ h]
        rfl
theorem K_wfb : ∀ (m i : Nat) (z : Sg), (wfb one other m i z).2.2 = z.2.2
  | 0, _, _ => rfl
  | m + 1, i, z => by
    rw [wfb]
    split
    · rfl
    · rw [K_wfb]
      split <;> rfl
theorem A_mfw {a : Nat} (h : ¬ a = 54) : ∀ (m i : Nat) (z : Sg), (mfw one other m i z).A a = z.A a
  | 0, _, _ => rfl
  | m + 1, i, z => by
    rw [mfw, A_mfw h, mf1]
    split
    · rfl
    · rw [A_stF, A_stA, if_neg h]
theorem F_mfw {j : Nat} (h : ¬ j = 31) : ∀ (m i : Nat) (z : Sg), (mfw one other m i z).F 39 j = z.F 39 j
  | 0, _, _ => rfl
  | m + 1, i, z => by
    rw [mfw, F_mfw h, mf1]
    split
    · rfl
    · rw [F_oth _ _ _ _ h]
      rfl
end Feed
theorem s_feed {c : Nat} {z : Sg} (h : RR c z z) (one other : Int32) : OK1 isI c z mDesk_feed mMod_feed [.int one, .int other] := by
  have hR := h
  obtain ⟨-, -, -, -, ⟨t, hp'⟩, -⟩ := h
  have ht := hp'.2.2.1
  have c1 := c_feed one other ht z hp'.1
  rw [cfb_cw one other 8 0 0 (by omega), Nat.zero_add] at c1
  by_cases ok : t + cwF one other 8 0 ≤ 26
  · rw [if_pos ok, if_pos ok] at c1
    have s1 : SM z (wfb one other 8 0 z) := SM_wfb one other 8 0 z
    have c2 := c_Mod_feed one other ht (wfb one other 8 0 z) (by rw [s1.2.1]; exact hp'.2.1)
    rw [Nat.add_assoc, cw_eq, if_pos ok, if_pos ok] at c2
    have hp2 := feed_ok one other 8 0 z (z00 (wfb one other 8 0 z)) t (by omega) (hp'.c rfl (by rw [F_oth _ _ _ _ (by decide), s1.2.1]) rfl (s1.1 54 (by decide))) ok
    rw [hp2.1] at c1
    refine OK1.mk _ _ ⟨_, rfl⟩ c1 c2 (by decide) (by decide) (by decide) (by decide) (by decide) (by decide) (SD_fdM one other _) s1 (RR_tape hR.up ⟨_, hp2⟩ (fun a ha => A_wfb one other ha 8 0 z) (fun a ha => Fi_wfb one other ha 8 0 z) (K_wfb one other 8 0 z) (fun a h1 h2 => ?_) (fun j h1 h2 => ?_))
    · show (mfw one other 8 0 (z00 (wfb one other 8 0 z))).A a = z.A a
      rw [A_mfw one other h2]
      exact s1.1 a h1
    · show (mfw one other 8 0 (z00 (wfb one other 8 0 z))).F 39 j = z.F 39 j
      rw [F_mfw one other h2, F_oth _ _ _ _ h1, s1.2.1]
  · rw [if_neg ok, if_neg ok] at c1
    have c2 := c_Mod_feed one other ht z hp'.2.1
    rw [Nat.add_assoc, cw_eq, if_neg ok, if_neg ok] at c2
    exact OK1.mk z _ ⟨_, rfl⟩ c1 c2 (by decide) (by decide) (by decide) (by decide) (by decide) (by decide) (SD_F z _ _) (SM.rf z) (hR.up.c (SD.rf z) (SN_F0 z _))
/-- a byte and the model's -/
theorem nar_int {b : Nat} (hb : b < 256) : (vp_nar .byte (nI b)).toInt = if b < 128 then (b : Int) else (b : Int) - 256 := by
  show (nI b).toInt8.toInt32.toInt = _
  rw [Int8.toInt_toInt32, Int32.toInt_toInt8, nI_toInt (by omega)]
  unfold Int.bmod
  split
  · rw [if_pos (by omega)]
    omega
  · rw [if_neg (by omega)]
    omega
theorem PR.lt {d m : Sg} {t j : Nat} (h : PR d m t) (hj : j < t) : (isL (d.A 23 j) ↔ isL (m.A 54 j)) ∧ (isL (m.A 54 j) → m.A 54 j = d.A 23 j) := by
  obtain ⟨b, b1, b2, b3⟩ := h.2.2.2 j hj
  have e := nar_int b1
  have hiff : isL (nI b) ↔ isL (vp_nar .byte (nI b)) := by
    unfold isL
    rw [e, nI_toInt (by omega)]
    split <;> omega
  rw [b2, b3]
  exact ⟨hiff, fun h9 => byL (hiff.mpr h9)⟩
section Word
variable {d m : Sg} {N t : Nat}
theorem eq_iff (hb : BR d m N) (hp' : PR d m t) (hL : ∀ j, j < t → isL (m.A 54 j)) {W : Nat} (hW : W < N) : eqW d 23 26 t W ↔ mEq m t W t := by
  have ht := hp'.2.2.1
  obtain ⟨⟨L, l1, l2, l3, l4, l5⟩, -⟩ := hb.2.2.2 W hW
  unfold eqW mEq
  rw [l3, l4]
  constructor
  · rintro ⟨a, -, b⟩
    refine ⟨a, fun j hj => ?_⟩
    rw [nI_eq (by omega) (by omega)] at a
    rw [← (l5 j (by omega)).1, b j hj, (hp'.lt hj).2 (hL j hj)]
  · rintro ⟨a, b⟩
    refine ⟨a, ht, fun j hj => ?_⟩
    rw [nI_eq (by omega) (by omega)] at a
    rw [(l5 j (by omega)).1, b j hj, (hp'.lt hj).2 (hL j hj)]
theorem find_both (hb : BR d m N) (hp' : PR d m t) (hL : ∀ j, j < t → isL (m.A 54 j)) : ∀ (k W : Nat), W + k = N → (fnd d 23 26 t k W = -1 ∧ mfn m t k W = N) ∨ ∃ V, V < N ∧ fnd d 23 26 t k W = nI V ∧ mfn m t k W = V
  | 0, W, h => Or.inl ⟨rfl, by rw [mfn]; omega⟩
  | k + 1, W, h => by
    rw [fnd, mfn]
    have hi := eq_iff hb hp' hL (show W < N by omega)
    by_cases e : mEq m t W t
    · rw [if_pos (hi.mpr e), if_pos e]
      exact Or.inr ⟨W, by omega, rfl, rfl⟩
    · rw [if_neg (fun h9 => e (hi.mp h9)), if_neg e]
      exact find_both hb hp' hL k (W + 1) (by omega)
end Word
