/-! THE MODEL: lays -/
def duM (z : Sg) (f j p : Nat) (w : Bool) : Int64 := if w = true then z.L 61 (27 * f + j) else z.L 60 (ixR f j p)
def itr (z : Sg) (f k j p : Nat) : Int64 := itm z f k p + z.L 60 (ixR k j (p + 1))
abbrev KF := Nat → Nat → Nat → Bool → Nat
/-- where the first item of a part ends: the first end at which the sum due comes out -/
def hK (z : Sg) (K : KF) (n : Nat) : Prop := ∀ f j p w, f < j → j ≤ n → p ≤ f + 1 → 1 ≤ p → (w = true → f + 1 < j ∧ p = 1) → f < K f j p w ∧ K f j p w ≤ j ∧ (w = true → K f j p w < j) ∧ itr z f (K f j p w) j p = duM z f j p w ∧ ∀ k, f < k → k < K f j p w → ¬ itr z f k j p = duM z f j p w
def smL (z z' : Sg) : Prop := z'.A 59 = z.A 59 ∧ z'.A 62 = z.A 62 ∧ z'.A 43 = z.A 43 ∧ z'.L = z.L
theorem wgs_c {z z' : Sg} (h : smL z z') : ∀ (m k : Nat) (s : Int64), wgs z' m k s = wgs z m k s
  | 0, _, _ => rfl
  | m + 1, k, s => by rw [wgs, wgs, wgs_c h m, h.1, h.2.1]
theorem itr_c {z z' : Sg} (h : smL z z') (f k j p : Nat) : itr z' f k j p = itr z f k j p := by
  unfold itr itm
  rw [wgs_c h, h.2.2.1, h.2.2.2]
theorem duM_c {z z' : Sg} (h : smL z z') (f j p : Nat) (w : Bool) : duM z' f j p w = duM z f j p w := by
  unfold duM
  rw [h.2.2.2]
theorem hK_c {z z' : Sg} {K : KF} {n : Nat} (h : smL z z') (hk : hK z K n) : hK z' K n := by
  intro f j p w h1 h2 h3 h4 h5
  obtain ⟨a1, a2, a3, a4, a5⟩ := hk f j p w h1 h2 h3 h4 h5
  exact ⟨a1, a2, a3, by rw [itr_c h, duM_c h]; exact a4, fun k b1 b2 => by rw [itr_c h, duM_c h]; exact a5 k b1 b2⟩
theorem rw_c {z z' : Sg} {n : Nat} (h : smL z z') (hr : rwOK z n) : rwOK z' n := ⟨hr.1, fun j hj => by rw [h.2.1]; exact hr.2 j hj⟩
theorem smL_tr {a b c : Sg} (h1 : smL a b) (h2 : smL b c) : smL a c := ⟨h2.1.trans h1.1, h2.2.1.trans h1.2.1, h2.2.2.1.trans h1.2.2.1, h2.2.2.2.trans h1.2.2.2⟩
theorem smL_zad (z : Sg) (g k v : Int32) : smL z (zad z g k v) := ⟨rfl, rfl, rfl, rfl⟩
def lyM (K : KF) : Nat → Nat → Nat → Nat → Nat → Bool → Sg → Sg
  | 0, _, _, _, _, _, z => z
  | m + 1, g, f, j, p, w, z => if j ≤ f then z else
      if K f j p w - f = 1 then lyM K m g (K f j p w) j (p + 1) false (zad z (nI g) 1 (z.A 62 f))
      else lyM K m g (K f j p w) j (p + 1) false (lyM K m (z.F 39 5).toNatClampNeg f (K f j p w) 1 true (zad z (nI g) 0 (-1)))
theorem ly_same (K : KF) : ∀ (m g f j p : Nat) (w : Bool) (z : Sg), smL z (lyM K m g f j p w z)
  | 0, _, _, _, _, _, z => ⟨rfl, rfl, rfl, rfl⟩
  | m + 1, g, f, j, p, w, z => by
    rw [lyM]
    split
    · exact ⟨rfl, rfl, rfl, rfl⟩
    · split
      · exact smL_tr (smL_zad z _ _ _) (ly_same K m _ _ _ _ _ _)
      · exact smL_tr (smL_tr (smL_zad z _ _ _) (ly_same K m _ _ _ _ _ _)) (ly_same K m _ _ _ _ _ _)
theorem ly_N {K : KF} {n : Nat} : ∀ (m g f j p : Nat) (w : Bool) (z : Sg) (N : Nat), hK z K n → j ≤ n → p ≤ f + 1 → 1 ≤ p → (w = true → f + 1 < j ∧ p = 1) → z.F 39 5 = nI N → N + 2 * (j - f) ≤ 60 + (if w = true then 1 else 0) → ∃ N', N ≤ N' ∧ N' ≤ N + 2 * (j - f) - (if w = true then 2 else if f < j then 1 else 0) ∧ (lyM K m g f j p w z).F 39 5 = nI N'
  | 0, g, f, j, p, w, z, N, hk, h2, h3, h4, h5, hF, hN => by
    refine ⟨N, Nat.le_refl N, ?_, hF⟩
    by_cases hw : w = true
    · rw [if_pos hw]; have := h5 hw; omega
    · rw [if_neg hw]; split <;> omega
  | m + 1, g, f, j, p, w, z, N, hk, h2, h3, h4, h5, hF, hN => by
    rw [lyM]
    by_cases hj : j ≤ f
    · rw [if_pos hj]
      refine ⟨N, Nat.le_refl N, ?_, hF⟩
      rw [if_neg (fun hw => by have := h5 hw; omega), if_neg (by omega)]
      omega
    · rw [if_neg hj]
      obtain ⟨a1, a2, a3, -, -⟩ := hk f j p w (by omega) h2 h3 h4 h5
      generalize hkk : K f j p w = k at a1 a2 a3 ⊢
      have hN2 : N + 2 * (j - f) ≤ 60 ∨ (w = true ∧ N + 2 * (j - f) ≤ 61) := by
        by_cases hw : w = true
        · rw [if_pos hw] at hN; exact Or.inr ⟨hw, hN⟩
        · rw [if_neg hw] at hN; exact Or.inl hN
      have hN3 : N + 2 * (k - f) ≤ 60 := by
        rcases hN2 with h | ⟨h, h'⟩
        · omega
        · have := a3 h; omega
      have ha : ∀ q v, (zad z (nI g) q v).F 39 5 = nI (N + 1) := by
        intro q v
        show z.F 39 5 + 1 = nI (N + 1)
        rw [hF, nI_1]
      by_cases h1 : k - f = 1
      · rw [if_pos h1]
        obtain ⟨N', b1, b2, b3⟩ := ly_N m g k j (p + 1) false (zad z (nI g) 1 (z.A 62 f)) (N + 1) (hK_c (smL_zad z _ _ _) hk) h2 (by omega) (by omega) (fun h => absurd h (by decide)) (ha _ _) (by rw [if_neg (by decide)]; omega)
        refine ⟨N', by omega, ?_, b3⟩
        rw [if_neg (by decide)] at b2
        by_cases hw : w = true
        · have := a3 hw
          rw [if_pos hw]
          rw [if_pos this] at b2
          omega
        · rw [if_neg hw, if_pos (by omega)]
          split at b2 <;> omega
      · rw [if_neg h1]
        obtain ⟨N1, b1, b2, b3⟩ := ly_N m (z.F 39 5).toNatClampNeg f k 1 true (zad z (nI g) 0 (-1)) (N + 1) (hK_c (smL_zad z _ _ _) hk) (by omega) (by omega) (by omega) (fun _ => by omega) (ha _ _) (by rw [if_pos rfl]; omega)
        rw [if_pos rfl] at b2
        obtain ⟨N', c1, c2, c3⟩ := ly_N m g k j (p + 1) false (lyM K m (z.F 39 5).toNatClampNeg f k 1 true (zad z (nI g) 0 (-1))) N1 (hK_c (smL_tr (smL_zad z _ _ _) (ly_same K m _ _ _ _ _ _)) hk) h2 (by omega) (by omega) (fun h => absurd h (by decide)) b3 (by rw [if_neg (by decide)]; omega)
        refine ⟨N', by omega, ?_, c3⟩
        rw [if_neg (by decide)] at c2
        by_cases hw : w = true
        · have := a3 hw
          rw [if_pos hw]
          rw [if_pos this] at c2
          omega
        · rw [if_neg hw, if_pos (by omega)]
          split at c2 <;> omega
section Lays
variable {n : Nat} {K : KF} {d : Nat} {Q : Option Value → HP → Prop} {v2 v4 v5 b8 : Int32}
theorem l_fk {z : Sg} (h : rwOK z n) {g f j p kk : Nat} (du : Int64) (hfj : f < j) (hj : j ≤ n) (hp' : p ≤ f + 1) (hd : 2 ≤ d) (hkj : kk ≤ j) (hkk : itr z f kk j p = du) (hlt : ∀ k, f < k → k < kk → ¬ itr z f k j p = du) (KK : E mMod_lays d 0 0 96 [(0, .ref 39), (1, .int (nI g)), (2, .int v2), (3, .int (nI j)), (4, .int v4), (5, .int v5), (6, .int (nI f)), (7, .int (nI p)), (8, .int b8), (9, .long du), (11, .int (nI kk))] [] (hp z) Q) : ∀ (m k : Nat), k + m = kk → f < k → E mMod_lays d 0 0 58 [(0, .ref 39), (1, .int (nI g)), (2, .int v2), (3, .int (nI j)), (4, .int v4), (5, .int v5), (6, .int (nI f)), (7, .int (nI p)), (8, .int b8), (9, .long du), (11, .int (nI k))] [] (hp z) Q := by
  have hn := h.1
  intro m
  induction m with
  | zero =>
    intro k hk hfk
    have he : itm z f k p + z.L 60 (ixR k j (p + 1)) = du := by rw [← hkk, itr, show kk = k by omega]
    refine E_aload_n dX11_lays_58 rfl ?_
    refine E_iload dX11_lays_59 rfl ?_
    refine E_iload dX11_lays_61 rfl ?_
    refine E_iload dX11_lays_63 rfl ?_
    refine E_V3 dX11_lays_65 cv_X11_220 (by decide) (hg_39 _) rfl rfl (Nat.le_of_ble_eq_true rfl) (Nat.le_of_ble_eq_true rfl) (c_item h (Nat.le_of_lt hfk) (by omega) p) (by omega) (Nat.zero_le _) (Nat.zero_le _) ?_
    refine E_aload_n dX11_lays_68 rfl ?_
    refine E_getf 35 dX11_lays_69 fl_X11_85 (by decide) (hg_39 _) rfl ?_
    refine E_iload dX11_lays_72 rfl ?_
    refine E_iload_n dX11_lays_74 rfl ?_
    refine E_iload dX11_lays_75 rfl ?_
    refine E_iconst (v := 1) dX11_lays_77 rfl ?_
    refine E_iadd dX11_lays_78 ?_
    rw [nI_1]
    refine E_S3 dX11_lays_79 cs_X11_224 (Nat.le_of_ble_eq_true rfl) (Nat.le_of_ble_eq_true rfl) (c_index _ (i := k) (j := j) (p := p + 1) (by omega) (by omega) (by omega)) (by omega) (Nat.zero_le _) (Nat.zero_le _) ?_
    refine E_lald dX11_lays_82 (by decide) (hg_60 _) (vp_in_nI (by omega) (by omega)) ?_
    rw [nI_clamp (by omega)]
    refine E_ladd dX11_lays_83 ?_
    refine E_lload dX11_lays_84 rfl ?_
    refine E_lcmp dX11_lays_86 ?_
    refine E_if_eq 96 dX11_lays_87 (by decide) (fun c_87 => ?_) (fun c_87 => ?_)
    · rw [show k = kk by omega]
      exact KK
    · exact absurd (lgc.mpr he) c_87
  | succ m ih =>
    intro k hk hfk
    have he : ¬ itm z f k p + z.L 60 (ixR k j (p + 1)) = du := hlt k hfk (by omega)
    refine E_aload_n dX11_lays_58 rfl ?_
    refine E_iload dX11_lays_59 rfl ?_
    refine E_iload dX11_lays_61 rfl ?_
    refine E_iload dX11_lays_63 rfl ?_
    refine E_V3 dX11_lays_65 cv_X11_220 (by decide) (hg_39 _) rfl rfl (Nat.le_of_ble_eq_true rfl) (Nat.le_of_ble_eq_true rfl) (c_item h (Nat.le_of_lt hfk) (by omega) p) (by omega) (Nat.zero_le _) (Nat.zero_le _) ?_
    refine E_aload_n dX11_lays_68 rfl ?_
    refine E_getf 35 dX11_lays_69 fl_X11_85 (by decide) (hg_39 _) rfl ?_
    refine E_iload dX11_lays_72 rfl ?_
    refine E_iload_n dX11_lays_74 rfl ?_
    refine E_iload dX11_lays_75 rfl ?_
    refine E_iconst (v := 1) dX11_lays_77 rfl ?_
    refine E_iadd dX11_lays_78 ?_
    rw [nI_1]
    refine E_S3 dX11_lays_79 cs_X11_224 (Nat.le_of_ble_eq_true rfl) (Nat.le_of_ble_eq_true rfl) (c_index _ (i := k) (j := j) (p := p + 1) (by omega) (by omega) (by omega)) (by omega) (Nat.zero_le _) (Nat.zero_le _) ?_
    refine E_lald dX11_lays_82 (by decide) (hg_60 _) (vp_in_nI (by omega) (by omega)) ?_
    rw [nI_clamp (by omega)]
    refine E_ladd dX11_lays_83 ?_
    refine E_lload dX11_lays_84 rfl ?_
    refine E_lcmp dX11_lays_86 ?_
    refine E_if_eq 96 dX11_lays_87 (by decide) (fun c_87 => ?_) (fun c_87 => ?_)
    · exact absurd (lgc.mp c_87) he
    · refine E_iincL 1 dX11_lays_90 rfl rfl (by decide) rfl ?_
      rw [nI_1]
      refine E_goto 58 dX11_lays_93 (by decide) ?_
      refine E.pick [1, 2, 3, 4, 5, 6, 7, 8, 9, 10, 0] rfl ?_
      exact ih (k + 1) (by omega) (by omega)
/-- one frame from its loop's head: from the letter f on -/
theorem l_ly : ∀ (m d g f j p : Nat) (w : Bool) (z : Sg) (N : Nat) (v2 v4 v5 : Int32), rwOK z n → hK z K n → j ≤ n → f ≤ n → p ≤ f + 1 → 1 ≤ p → (w = true → f + 1 < j ∧ p = 1) → z.F 39 5 = nI N → N + 2 * (j - f) ≤ 60 + (if w = true then 1 else 0) → 2 * (j - f) + (if w = true then 0 else 1) ≤ m → 2 + (j - f) + (if w = true then 0 else 1) ≤ d → E mMod_lays d 0 0 11 [(0, .ref 39), (1, .int (nI g)), (2, .int v2), (3, .int (nI j)), (4, .int v4), (5, .int v5), (6, .int (nI f)), (7, .int (nI p)), (8, .int (b2i (w = true)))] [] (hp z) (Det none (hp (lyM K m g f j p w z))) := by
  intro m
  induction m with
  | zero =>
    intro d g f j p w z N v2 v4 v5 hr hk hj hf9 hp1 hp2 hw hF hN hm hd
    have hn := hr.1
    have hjf : j ≤ f := by omega
    rw [lyM]
    refine E_iload dX11_lays_11 rfl ?_
    refine E_iload_n dX11_lays_13 rfl ?_
    refine E_icmp_ge 157 dX11_lays_14 (by decide) (fun c_14 => ?_) (fun c_14 => ?_)
    · exact E_vret dX11_lays_157 rfl ⟨rfl, rfl⟩
    · exact absurd (nI_le hjf (by omega)) c_14
  | succ m ih =>
    intro d g f j p w z N v2 v4 v5 hr hk hj hf9 hp1 hp2 hw hF hN hm hd
    have hn := hr.1
    have hF1 : 27 * f + j = 27 * f + j := rfl
    rw [lyM]
    by_cases hjf : j ≤ f
    · rw [if_pos hjf]
      refine E_iload dX11_lays_11 rfl ?_
      refine E_iload_n dX11_lays_13 rfl ?_
      refine E_icmp_ge 157 dX11_lays_14 (by decide) (fun c_14 => ?_) (fun c_14 => ?_)
      · exact E_vret dX11_lays_157 rfl ⟨rfl, rfl⟩
      · exact absurd (nI_le hjf (by omega)) c_14
    · rw [if_neg hjf]
      obtain ⟨a1, a2, a3, a4, a5⟩ := hk f j p w (by omega) hj hp1 hp2 hw
      generalize hkk : K f j p w = k at a1 a2 a3 a4 a5 ⊢
      have he : (27 : Int32) * nI f + nI j = nI (27 * f + j) := by rw [show (27 : Int32) = nI 27 from rfl, pk_mul, nI_add]
      have hN2 : N + 2 * (j - f) ≤ 60 ∨ (w = true ∧ N + 2 * (j - f) ≤ 61) := by
        by_cases hw : w = true
        · rw [if_pos hw] at hN; exact Or.inr ⟨hw, hN⟩
        · rw [if_neg hw] at hN; exact Or.inl hN
      have hN3 : N + 2 * (k - f) ≤ 60 := by
        rcases hN2 with h | ⟨h, h'⟩
        · omega
        · have := a3 h; omega
      have hvp : vp_in (z.F 39 5) 60 := by rw [hF]; exact vp_in_nI (by omega) (by omega)
      have ha : ∀ q v, (zad z (nI g) q v).F 39 5 = nI (N + 1) := by
        intro q v
        show z.F 39 5 + 1 = nI (N + 1)
        rw [hF, nI_1]
      have hmd : 2 * (j - k) + 1 ≤ m ∧ 3 + (j - k) ≤ d ∧ 2 * (k - f) ≤ m ∧ 2 + (k - f) + 1 ≤ d := by
        by_cases hw : w = true
        · have := a3 hw
          rw [if_pos hw] at hm hd
          omega
        · rw [if_neg hw] at hm hd
          omega
      have body : E mMod_lays d 0 0 96 [(0, .ref 39), (1, .int (nI g)), (2, .int v2), (3, .int (nI j)), (4, .int v4), (5, .int v5), (6, .int (nI f)), (7, .int (nI p)), (8, .int (b2i (w = true))), (9, .long (duM z f j p w)), (11, .int (nI k))] [] (hp z) (Det none (hp (if k - f = 1 then lyM K m g k j (p + 1) false (zad z (nI g) 1 (z.A 62 f)) else lyM K m g k j (p + 1) false (lyM K m (z.F 39 5).toNatClampNeg f k 1 true (zad z (nI g) 0 (-1)))))) := by
        by_cases h1 : k - f = 1
        · rw [if_pos h1]
          have t9 := ih d g k j (p + 1) false (zad z (nI g) 1 (z.A 62 f)) (N + 1) v2 v4 v5 (rw_c (smL_zad z _ _ _) hr) (hK_c (smL_zad z _ _ _) hk) hj (by omega) (by omega) (by omega) (fun h => absurd h (by decide)) (ha _ _) (by rw [if_neg (by decide)]; omega) (by rw [if_neg (by decide)]; omega) (by rw [if_neg (by decide)]; omega)
          rw [b2i_f (by decide)] at t9
          refine E_iload dX11_lays_96 rfl ?_
          refine E_iload dX11_lays_98 rfl ?_
          refine E_isub dX11_lays_100 ?_
          rw [pk_sub (by omega), h1]
          refine E_iconst (v := 1) dX11_lays_101 rfl ?_
          refine E_icmp_ne 123 dX11_lays_102 (by decide) (fun c_102 => ?_) (fun c_102 => ?_)
          · exact absurd rfl c_102
          · refine E_aload_n dX11_lays_105 rfl ?_
            refine E_iload_n dX11_lays_106 rfl ?_
            refine E_iconst (v := 1) dX11_lays_107 rfl ?_
            refine E_aload_n dX11_lays_108 rfl ?_
            refine E_getf 37 dX11_lays_109 fl_X11_92 (by decide) (hg_39 _) rfl ?_
            refine E_iload dX11_lays_112 rfl ?_
            refine E_bald dX11_lays_114 (by decide) (hg_62 _) (vp_in_nI (by omega) (by omega)) ?_
            rw [nI_clamp (by omega)]
            refine E_V3 dX11_lays_115 cv_X11_127 (by decide) (hg_39 _) rfl rfl (Nat.le_of_ble_eq_true rfl) (Nat.le_of_ble_eq_true rfl) (c_adds z hvp (nI g) 1 _) (by omega) (Nat.zero_le _) (Nat.zero_le _) ?_
            refine E_istore dX11_lays_118 (by decide) rfl ?_
            refine E_goto 144 dX11_lays_120 (by decide) ?_
            refine E_iconst (v := 0) dX11_lays_144 rfl ?_
            refine E_istore dX11_lays_145 (by decide) rfl ?_
            refine E_iload dX11_lays_147 rfl ?_
            refine E_istore dX11_lays_149 (by decide) rfl ?_
            refine E_iincL 1 dX11_lays_151 rfl rfl (by decide) rfl ?_
            rw [nI_1]
            refine E_goto 11 dX11_lays_154 (by decide) ?_
            refine E.pick [4, 5, 6, 7, 8, 9, 1, 0, 2] rfl ?_
            exact t9
        · rw [if_neg h1]
          obtain ⟨N1, b1, b2, b3⟩ := ly_N (K := K) m (z.F 39 5).toNatClampNeg f k 1 true (zad z (nI g) 0 (-1)) (N + 1) (hK_c (smL_zad z _ _ _) hk) (by omega) (by omega) (by omega) (fun _ => by omega) (ha _ _) (by rw [if_pos rfl]; omega)
          rw [if_pos rfl] at b2
          have hs2 := smL_tr (smL_zad z (nI g) 0 (-1)) (ly_same K m (z.F 39 5).toNatClampNeg f k 1 true (zad z (nI g) 0 (-1)))
          have t9 := ih d g k j (p + 1) false (lyM K m (z.F 39 5).toNatClampNeg f k 1 true (zad z (nI g) 0 (-1))) N1 v2 v4 v5 (rw_c hs2 hr) (hK_c hs2 hk) hj (by omega) (by omega) (by omega) (fun h => absurd h (by decide)) b3 (by rw [if_neg (by decide)]; omega) (by rw [if_neg (by decide)]; omega) (by rw [if_neg (by decide)]; omega)
          rw [b2i_f (by decide)] at t9
          have t8 := ih (2 + (k - f)) N f k 1 true (zad z (nI g) 0 (-1)) (N + 1) (nI f) 1 1 (rw_c (smL_zad z _ _ _) hr) (hK_c (smL_zad z _ _ _) hk) (by omega) (by omega) (by omega) (by omega) (fun _ => by omega) (ha _ _) (by rw [if_pos rfl]; omega) (by rw [if_pos rfl]; omega) (by rw [if_pos rfl]; omega)
          rw [b2i_t rfl] at t8
          have t7 : EM mMod_lays (2 + (k - f)) 0 0 [.ref 39, .int (nI N), .int (nI f), .int (nI k), .int 1, .int 1] (hp (zad z (nI g) 0 (-1))) (Det none (hp (lyM K m N f k 1 true (zad z (nI g) 0 (-1))))) := by
            refine E_iload_n dX11_lays_0 rfl ?_
            refine E_istore dX11_lays_1 (by decide) rfl ?_
            refine E_iload dX11_lays_3 rfl ?_
            refine E_istore dX11_lays_5 (by decide) rfl ?_
            refine E_iload dX11_lays_7 rfl ?_
            refine E_istore dX11_lays_9 (by decide) rfl ?_
            refine E.pick [3, 4, 5, 6, 7, 8, 2, 1, 0] rfl ?_
            exact t8
          rw [hF, nI_clamp (by omega)] at t9 ⊢
          have hadd := c_adds z hvp (nI g) 0 (-1)
          rw [hF] at hadd
          refine E_iload dX11_lays_96 rfl ?_
          refine E_iload dX11_lays_98 rfl ?_
          refine E_isub dX11_lays_100 ?_
          rw [pk_sub (by omega)]
          refine E_iconst (v := 1) dX11_lays_101 rfl ?_
          refine E_icmp_ne 123 dX11_lays_102 (by decide) (fun c_102 => ?_) (fun c_102 => ?_)
          · refine E_aload_n dX11_lays_123 rfl ?_
            refine E_iload_n dX11_lays_124 rfl ?_
            refine E_iconst (v := 0) dX11_lays_125 rfl ?_
            refine E_iconst (v := (-1)) dX11_lays_126 rfl ?_
            refine E_V3 dX11_lays_127 cv_X11_127 (by decide) (hg_39 _) rfl rfl (Nat.le_of_ble_eq_true rfl) (Nat.le_of_ble_eq_true rfl) (hadd) (by omega) (Nat.zero_le _) (Nat.zero_le _) ?_
            refine E_istore dX11_lays_130 (by decide) rfl ?_
            refine E_aload_n dX11_lays_132 rfl ?_
            refine E_iload dX11_lays_133 rfl ?_
            refine E_iload dX11_lays_135 rfl ?_
            refine E_iload dX11_lays_137 rfl ?_
            refine E_iconst (v := 1) dX11_lays_139 rfl ?_
            refine E_iconst (v := 1) dX11_lays_140 rfl ?_
            refine E_V5 dX11_lays_141 cv_X11_235 (by decide) (hg_39 _) rfl rfl (Nat.le_of_ble_eq_true rfl) (Nat.le_of_ble_eq_true rfl) (t7) (by omega) (Nat.zero_le _) (Nat.zero_le _) ?_
            refine E_iconst (v := 0) dX11_lays_144 rfl ?_
            refine E_istore dX11_lays_145 (by decide) rfl ?_
            refine E_iload dX11_lays_147 rfl ?_
            refine E_istore dX11_lays_149 (by decide) rfl ?_
            refine E_iincL 1 dX11_lays_151 rfl rfl (by decide) rfl ?_
            rw [nI_1]
            refine E_goto 11 dX11_lays_154 (by decide) ?_
            refine E.pick [4, 5, 6, 7, 8, 9, 1, 0, 2] rfl ?_
            exact t9
          · exact absurd ((nI_eq (b := 1) (by omega) (by omega)).mp c_102) h1
      have t5 := l_fk hr (g := g) (v2 := v2) (v4 := v4) (v5 := v5) (b8 := b2i (w = true)) (duM z f j p w) (by omega) hj hp1 (by omega) a2 a4 a5 body (k - (f + 1)) (f + 1) (by omega) (by omega)
      refine E_iload dX11_lays_11 rfl ?_
      refine E_iload_n dX11_lays_13 rfl ?_
      refine E_icmp_ge 157 dX11_lays_14 (by decide) (fun c_14 => ?_) (fun c_14 => ?_)
      · exact absurd c_14 (nI_ge (by omega) (by omega))
      · refine E_iload dX11_lays_17 rfl ?_
        refine E_if_eq 37 dX11_lays_19 (by decide) (fun c_19 => ?_) (fun c_19 => ?_)
        · refine E_aload_n dX11_lays_37 rfl ?_
          refine E_getf 35 dX11_lays_38 fl_X11_85 (by decide) (hg_39 _) rfl ?_
          refine E_iload dX11_lays_41 rfl ?_
          refine E_iload_n dX11_lays_43 rfl ?_
          refine E_iload dX11_lays_44 rfl ?_
          refine E_S3 dX11_lays_46 cs_X11_224 (Nat.le_of_ble_eq_true rfl) (Nat.le_of_ble_eq_true rfl) (c_index _ (i := f) (j := j) (p := p) (by omega) (by omega) (by omega)) (by omega) (Nat.zero_le _) (Nat.zero_le _) ?_
          refine E_lald dX11_lays_49 (by decide) (hg_60 _) (vp_in_nI (by omega) (by omega)) ?_
          try rw [nI_clamp (by omega)]
          refine E_lstore dX11_lays_50 (by decide) rfl ?_
          refine E_iload dX11_lays_52 rfl ?_
          refine E_iconst (v := 1) dX11_lays_54 rfl ?_
          refine E_iadd dX11_lays_55 ?_
          rw [nI_1]
          refine E_istore dX11_lays_56 (by decide) rfl ?_
          refine E.pick [2, 3, 4, 5, 6, 7, 8, 9, 10, 1, 0] rfl ?_
          first | exact (by rw [duM, if_pos (b2i_ne c_19)] at t5; exact t5) | exact (by rw [duM, if_neg (b2i_e0 c_19)] at t5; exact t5)
        · refine E_aload_n dX11_lays_22 rfl ?_
          refine E_getf 36 dX11_lays_23 fl_X11_89 (by decide) (hg_39 _) rfl ?_
          refine E_bipush (v := 27) dX11_lays_26 rfl ?_
          refine E_iload dX11_lays_28 rfl ?_
          refine E_imul dX11_lays_30 ?_
          refine E_iload_n dX11_lays_31 rfl ?_
          refine E_iadd dX11_lays_32 ?_
          rw [he]
          refine E_lald dX11_lays_33 (by decide) (hg_61 _) (vp_in_nI (by omega) (by omega)) ?_
          rw [nI_clamp (by omega)]
          refine E_goto 50 dX11_lays_34 (by decide) ?_
          try rw [nI_clamp (by omega)]
          refine E_lstore dX11_lays_50 (by decide) rfl ?_
          refine E_iload dX11_lays_52 rfl ?_
          refine E_iconst (v := 1) dX11_lays_54 rfl ?_
          refine E_iadd dX11_lays_55 ?_
          rw [nI_1]
          refine E_istore dX11_lays_56 (by decide) rfl ?_
          refine E.pick [2, 3, 4, 5, 6, 7, 8, 9, 10, 1, 0] rfl ?_
          first | exact (by rw [duM, if_pos (b2i_ne c_19)] at t5; exact t5) | exact (by rw [duM, if_neg (b2i_e0 c_19)] at t5; exact t5)
end Lays
