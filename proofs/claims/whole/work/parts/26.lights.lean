/-! LIGHTS: findLights, looks -/
def flz (n : Nat) (z : Sg) (a : Nat) (v : Int32) : Sg := stA z a (fun j => if j < n then v else z.A a j)
theorem c_fillz {n a : Nat} (ha : 3 ≤ a) (hn : n < 2 ^ 31) (hga : ∀ z : Sg, (hp z)[a]? = some (.inl (0, n, .inl (z.A a)))) (hsa : ∀ (z : Sg) (f : Nat → Int32), (hp z).set a (.inl (0, n, .inl f)) = hp (stA z a f)) (z : Sg) (v : Int32) :
    EM mArrays_fill 0 0 0 [.ref a, .int v] (hp z) (Det none (hp (flz n z a v))) := c_fill ha hn hga hsa z v
theorem F_flz (n : Nat) (z : Sg) (a : Nat) (v : Int32) : (flz n z a v).F = z.F := rfl
theorem F_jn (z : Sg) (o t : Int32) : (jn z o t).F = z.F := by
  unfold jn
  split <;> rfl
theorem F_sb (z : Sg) (nd g : Int32) : (sb z nd g).F = z.F := by
  unfold sb
  split
  · rw [F_jn]; rfl
  · rfl
theorem F_li1 : ∀ (m i : Nat) (z : Sg), (li1 m i z).F = z.F
  | 0, _, _ => rfl
  | m + 1, i, z => by rw [li1, F_li1]; rfl
theorem F_li2 : ∀ (i : Nat) (z : Sg), (li2 i z).F = z.F
  | 0, _ => rfl
  | i + 1, z => by
    rw [li2, F_li2]
    split <;> rfl
def zcl (z : Sg) : Sg := flz 26 (flz 60 (flz 60 (flz 60 (flz 60 (flz 60 z 11 0) 10 (-1)) 12 (-1)) 13 (-1)) 14 (-1)) 16 0
def li3 : Nat → Nat → Sg → Sg
  | 0, _, z => z
  | m + 1, i, z => li3 m (i + 1) (if liC z i then sb z (nI i) (z.A 9 i) else z)
def zfl (n : Nat) (z : Sg) : Sg := li3 (n - 1) 1 (zcl (li2 (n - 1) (li1 n 0 z)))
theorem l_li3 {n : Nat} (hn : n ≤ 60) : ∀ (m i : Nat) (z : Sg), i + m = n → z.F 6 10 = nI n → E mTray_findLights 3 0 0 54 [(0, .ref 6), (1, .int (nI i))] [] (hp z) (Det none (hp (li3 m i z))) := by
  intro m
  induction m with
  | zero =>
    intro i z hi hF
    refine E_iload_n dX9_findLights_54 rfl ?_
    refine E_aload_n dX9_findLights_55 rfl ?_
    refine E_getf 10 dX9_findLights_56 fl_X9_49 (by decide) (hg_6 _) rfl ?_
    rw [hF]
    refine E_icmp_ge 101 dX9_findLights_59 (by decide) (fun c_59 => ?_) (fun c_59 => ?_)
    · exact E_vret dX9_findLights_101 rfl ⟨rfl, rfl⟩
    · exact absurd (nI_le (by omega) (by omega)) c_59
  | succ m ih =>
    intro i z hi hF
    have hs : (z.F 6 10).toInt ≤ 60 := by rw [hF, nI_toInt (by omega)]; omega
    have hcl : (nI i).toNatClampNeg = i := nI_clamp (by omega)
    refine E_iload_n dX9_findLights_54 rfl ?_
    refine E_aload_n dX9_findLights_55 rfl ?_
    refine E_getf 10 dX9_findLights_56 fl_X9_49 (by decide) (hg_6 _) rfl ?_
    rw [hF]
    refine E_icmp_ge 101 dX9_findLights_59 (by decide) (fun c_59 => ?_) (fun c_59 => ?_)
    · exact absurd c_59 (nI_ge (by omega) (by omega))
    · refine E_aload_n dX9_findLights_62 rfl ?_
      refine E_getf 8 dX9_findLights_63 fl_X9_36 (by decide) (hg_6 _) rfl ?_
      refine E_iload_n dX9_findLights_66 rfl ?_
      refine E_zald dX9_findLights_67 (by decide) (hg_15 _) (vp_in_nI (by omega) (by omega)) ?_
      rw [hcl]
      refine E_if_eq 95 dX9_findLights_68 (by decide) (fun c_68 => ?_) (fun c_68 => ?_)
      · refine E_iincL 1 dX9_findLights_95 rfl rfl (by decide) rfl ?_
        rw [nI_1]
        refine E_goto 54 dX9_findLights_98 (by decide) ?_
        refine E.pick [1, 0] rfl ?_
        rw [li3]
        first | rw [if_neg (show ¬ liC z i from fun h => h.1 c_68)] | rw [if_neg (show ¬ liC z i from fun h => b2i_e0 c_81 h.2)] | rw [if_pos (show liC z i from ⟨c_68, b2i_ne c_81⟩)]
        first | exact ih (i + 1) _ (by omega) hF | exact ih (i + 1) _ (by omega) (by rw [F_sb]; exact hF)
      · refine E_aload_n dX9_findLights_71 rfl ?_
        refine E_aload_n dX9_findLights_72 rfl ?_
        refine E_getf 2 dX9_findLights_73 fl_X9_18 (by decide) (hg_6 _) rfl ?_
        refine E_iload_n dX9_findLights_76 rfl ?_
        refine E_iald dX9_findLights_77 (by decide) (hg_9 _) (vp_in_nI (by omega) (by omega)) ?_
        rw [hcl]
        refine E_V1 dX9_findLights_78 cv_X9_81 (by decide) (hg_6 _) rfl rfl (Nat.le_of_ble_eq_true rfl) (Nat.le_of_ble_eq_true rfl) (c_has _ _) (by decide) (Nat.zero_le _) (Nat.zero_le _) ?_
        refine E_if_eq 95 dX9_findLights_81 (by decide) (fun c_81 => ?_) (fun c_81 => ?_)
        · refine E_iincL 1 dX9_findLights_95 rfl rfl (by decide) rfl ?_
          rw [nI_1]
          refine E_goto 54 dX9_findLights_98 (by decide) ?_
          refine E.pick [1, 0] rfl ?_
          rw [li3]
          first | rw [if_neg (show ¬ liC z i from fun h => h.1 c_68)] | rw [if_neg (show ¬ liC z i from fun h => b2i_e0 c_81 h.2)] | rw [if_pos (show liC z i from ⟨c_68, b2i_ne c_81⟩)]
          first | exact ih (i + 1) _ (by omega) hF | exact ih (i + 1) _ (by omega) (by rw [F_sb]; exact hF)
        · refine E_aload_n dX9_findLights_84 rfl ?_
          refine E_iload_n dX9_findLights_85 rfl ?_
          refine E_aload_n dX9_findLights_86 rfl ?_
          refine E_getf 2 dX9_findLights_87 fl_X9_18 (by decide) (hg_6 _) rfl ?_
          refine E_iload_n dX9_findLights_90 rfl ?_
          refine E_iald dX9_findLights_91 (by decide) (hg_9 _) (vp_in_nI (by omega) (by omega)) ?_
          rw [hcl]
          refine E_V2 dX9_findLights_92 cv_X9_84 (by decide) (hg_6 _) rfl rfl (Nat.le_of_ble_eq_true rfl) (Nat.le_of_ble_eq_true rfl) (c_standBehind z hs _ _ (vp_in_nI (by omega) (by omega)) (tg_in (b2i_ne c_81) hs)) (by decide) (Nat.zero_le _) (Nat.zero_le _) ?_
          refine E_iincL 1 dX9_findLights_95 rfl rfl (by decide) rfl ?_
          rw [nI_1]
          refine E_goto 54 dX9_findLights_98 (by decide) ?_
          refine E.pick [1, 0] rfl ?_
          rw [li3]
          first | rw [if_neg (show ¬ liC z i from fun h => h.1 c_68)] | rw [if_neg (show ¬ liC z i from fun h => b2i_e0 c_81 h.2)] | rw [if_pos (show liC z i from ⟨c_68, b2i_ne c_81⟩)]
          first | exact ih (i + 1) _ (by omega) hF | exact ih (i + 1) _ (by omega) (by rw [F_sb]; exact hF)
theorem c_findLights {n : Nat} (h1 : 1 ≤ n) (hn : n ≤ 60) (z : Sg) (hF : z.F 6 10 = nI n) : EM mTray_findLights 3 0 0 [.ref 6] (hp z) (Det none (hp (zfl n z))) := by
  refine E_aload_n dX9_findLights_0 rfl ?_
  refine E_V0 dX9_findLights_1 cv_X9_72 (by decide) (hg_6 _) rfl rfl (Nat.le_of_ble_eq_true rfl) (Nat.le_of_ble_eq_true rfl) (c_findLighted h1 hn z hF) (by decide) (Nat.zero_le _) (Nat.zero_le _) ?_
  refine E_aload_n dX9_findLights_4 rfl ?_
  refine E_getf 4 dX9_findLights_5 fl_X9_24 (by decide) (hg_6 _) rfl ?_
  refine E_iconst (v := 0) dX9_findLights_8 rfl ?_
  refine E_S2 dX9_findLights_9 cs_X9_75 (Nat.le_of_ble_eq_true rfl) (Nat.le_of_ble_eq_true rfl) (c_fillz (by decide) (by decide) hg_11 hs_11 _ _) (by decide) (Nat.zero_le _) (Nat.zero_le _) ?_
  refine E_aload_n dX9_findLights_12 rfl ?_
  refine E_getf 3 dX9_findLights_13 fl_X9_21 (by decide) (hg_6 _) rfl ?_
  refine E_iconst (v := (-1)) dX9_findLights_16 rfl ?_
  refine E_S2 dX9_findLights_17 cs_X9_75 (Nat.le_of_ble_eq_true rfl) (Nat.le_of_ble_eq_true rfl) (c_fillz (by decide) (by decide) hg_10 hs_10 _ _) (by decide) (Nat.zero_le _) (Nat.zero_le _) ?_
  refine E_aload_n dX9_findLights_20 rfl ?_
  refine E_getf 5 dX9_findLights_21 fl_X9_27 (by decide) (hg_6 _) rfl ?_
  refine E_iconst (v := (-1)) dX9_findLights_24 rfl ?_
  refine E_S2 dX9_findLights_25 cs_X9_75 (Nat.le_of_ble_eq_true rfl) (Nat.le_of_ble_eq_true rfl) (c_fillz (by decide) (by decide) hg_12 hs_12 _ _) (by decide) (Nat.zero_le _) (Nat.zero_le _) ?_
  refine E_aload_n dX9_findLights_28 rfl ?_
  refine E_getf 6 dX9_findLights_29 fl_X9_30 (by decide) (hg_6 _) rfl ?_
  refine E_iconst (v := (-1)) dX9_findLights_32 rfl ?_
  refine E_S2 dX9_findLights_33 cs_X9_75 (Nat.le_of_ble_eq_true rfl) (Nat.le_of_ble_eq_true rfl) (c_fillz (by decide) (by decide) hg_13 hs_13 _ _) (by decide) (Nat.zero_le _) (Nat.zero_le _) ?_
  refine E_aload_n dX9_findLights_36 rfl ?_
  refine E_getf 7 dX9_findLights_37 fl_X9_33 (by decide) (hg_6 _) rfl ?_
  refine E_iconst (v := (-1)) dX9_findLights_40 rfl ?_
  refine E_S2 dX9_findLights_41 cs_X9_75 (Nat.le_of_ble_eq_true rfl) (Nat.le_of_ble_eq_true rfl) (c_fillz (by decide) (by decide) hg_14 hs_14 _ _) (by decide) (Nat.zero_le _) (Nat.zero_le _) ?_
  refine E_aload_n dX9_findLights_44 rfl ?_
  refine E_getf 9 dX9_findLights_45 fl_X9_40 (by decide) (hg_6 _) rfl ?_
  refine E_iconst (v := 0) dX9_findLights_48 rfl ?_
  refine E_S2 dX9_findLights_49 cs_X9_75 (Nat.le_of_ble_eq_true rfl) (Nat.le_of_ble_eq_true rfl) (c_fillz (by decide) (by decide) hg_16 hs_16 _ _) (by decide) (Nat.zero_le _) (Nat.zero_le _) ?_
  refine E_iconst (v := 1) dX9_findLights_52 rfl ?_
  refine E_istore_n dX9_findLights_53 (by decide) rfl ?_
  refine E.pick [1, 0] rfl ?_
  exact l_li3 hn (n - 1) 1 (zcl (li2 (n - 1) (li1 n 0 z))) (by omega) (by show (li2 (n - 1) (li1 n 0 z)).F 6 10 = nI n; rw [F_li2, F_li1]; exact hF)
def lo1 : Nat → Nat → Sg → Sg
  | 0, _, z => z
  | m + 1, i, z => lo1 m (i + 1) (stA (stA (stA z 44 (upd (z.A 44) i (b2i (¬ z.A 40 i = 0)))) 46 (upd (z.A 46) i 0)) 47 (upd (z.A 47) i (-1)))
abbrev loC (z : Sg) (i : Nat) : Prop := ¬ z.A 44 (z.A 42 i).toNatClampNeg = 0 ∨ ¬ z.A 44 i = 0
def lo2 : Nat → Sg → Sg
  | 0, z => z
  | i + 1, z => lo2 i (stA z 44 (upd (z.A 44) (z.A 42 (i + 1)).toNatClampNeg (b2i (loC z (i + 1)))))
def lk (z : Sg) (i : Nat) (g : Int32) : Sg :=
  stA (stA (stA z 45 (upd (z.A 45) (60 * g + z.A 46 g.toNatClampNeg).toNatClampNeg (nI i))) 46 (upd (z.A 46) g.toNatClampNeg (z.A 46 g.toNatClampNeg + 1))) 47 (upd (z.A 47) i (upd (z.A 46) g.toNatClampNeg (z.A 46 g.toNatClampNeg + 1) g.toNatClampNeg))
def lo3 : Nat → Nat → Sg → Sg
  | 0, _, z => z
  | m + 1, i, z => lo3 m (i + 1) (if ¬ z.A 44 i = 0 then lk z i (z.A 42 i) else z)
def zlk (n : Nat) (z : Sg) : Sg := lo3 (n - 1) 1 (lo2 (n - 1) (lo1 n 0 z))
theorem E.heq {y : MI} {d k n pc : Nat} {lv : List (Nat × Value)} {st : List Value} {h : HP} {Q : Option Value → HP → Prop} (h' : HP) (e : h = h') (hE : E y d k n pc lv st h' Q) : E y d k n pc lv st h Q := e ▸ hE
theorem A46_lk (z : Sg) (i : Nat) (g : Int32) : (lk z i g).A 46 = upd (z.A 46) g.toNatClampNeg (z.A 46 g.toNatClampNeg + 1) := rfl
theorem lk_cnt {n i g0 : Nat} {z : Sg} (hn : n ≤ 60) (h0 : g0 < n) (hc : ∀ g, g < n → ∃ c, c < i ∧ z.A 46 g = nI c) : ∀ g, g < n → ∃ c, c < i + 1 ∧ (lk z i (nI g0)).A 46 g = nI c := by
  intro g hg
  rw [A46_lk, nI_clamp (show g0 < 2 ^ 31 by omega)]
  by_cases h : g = g0
  · subst h
    obtain ⟨c, a, b⟩ := hc g hg
    exact ⟨c + 1, by omega, by rw [pk_us, b, nI_1]⟩
  · obtain ⟨c, a, b⟩ := hc g hg
    exact ⟨c, by omega, by rw [pk_un h, b]⟩
/-- the model's groups lie below n -/
def inOK (n : Nat) (z : Sg) : Prop := ∀ i, 0 < i → i < n → ∃ g, g < n ∧ z.A 42 i = nI g
theorem l_lo3 {n : Nat} (hn : n ≤ 60) : ∀ (m i : Nat) (z : Sg), 1 ≤ i → i + m = n → z.F 39 5 = nI n → inOK n z → (∀ g, g < n → ∃ c, c < i ∧ z.A 46 g = nI c) → E mMod_looks 0 0 0 108 [(0, .ref 39), (1, .int (nI i))] [] (hp z) (Det none (hp (lo3 m i z))) := by
  intro m
  induction m with
  | zero =>
    intro i z h1 hi hF hI hc
    refine E_iload_n dX11_looks_108 rfl ?_
    refine E_aload_n dX11_looks_109 rfl ?_
    refine E_getf 5 dX11_looks_110 fl_X11_22 (by decide) (hg_39 _) rfl ?_
    rw [hF]
    refine E_icmp_ge 180 dX11_looks_113 (by decide) (fun c_113 => ?_) (fun c_113 => ?_)
    · exact E_vret dX11_looks_180 rfl ⟨rfl, rfl⟩
    · exact absurd (nI_le (by omega) (by omega)) c_113
  | succ m ih =>
    intro i z h1 hi hF hI hc
    have hcl : (nI i).toNatClampNeg = i := nI_clamp (by omega)
    obtain ⟨g, hg, eg⟩ := hI i (by omega) (by omega)
    obtain ⟨c, hc1, ec⟩ := hc g hg
    have hgc : (nI g).toNatClampNeg = g := nI_clamp (by omega)
    have hgin : vp_in (nI g) 60 := vp_in_nI (by omega) (by omega)
    refine E_iload_n dX11_looks_108 rfl ?_
    refine E_aload_n dX11_looks_109 rfl ?_
    refine E_getf 5 dX11_looks_110 fl_X11_22 (by decide) (hg_39 _) rfl ?_
    rw [hF]
    refine E_icmp_ge 180 dX11_looks_113 (by decide) (fun c_113 => ?_) (fun c_113 => ?_)
    · exact absurd c_113 (nI_ge (by omega) (by omega))
    · refine E_aload_n dX11_looks_116 rfl ?_
      refine E_getf 6 dX11_looks_117 fl_X11_26 (by decide) (hg_39 _) rfl ?_
      refine E_iload_n dX11_looks_120 rfl ?_
      refine E_zald dX11_looks_121 (by decide) (hg_44 _) (vp_in_nI (by omega) (by omega)) ?_
      rw [hcl]
      refine E_if_ne 128 dX11_looks_122 (by decide) (fun c_122 => ?_) (fun c_122 => ?_)
      · refine E_aload_n dX11_looks_128 rfl ?_
        refine E_getf 3 dX11_looks_129 fl_X11_16 (by decide) (hg_39 _) rfl ?_
        refine E_iload_n dX11_looks_132 rfl ?_
        refine E_iald dX11_looks_133 (by decide) (hg_42 _) (vp_in_nI (by omega) (by omega)) ?_
        rw [hcl, eg]
        refine E_istore_n dX11_looks_134 (by decide) rfl ?_
        refine E_aload_n dX11_looks_135 rfl ?_
        refine E_getf 7 dX11_looks_136 fl_X11_30 (by decide) (hg_39 _) rfl ?_
        refine E_bipush (v := 60) dX11_looks_139 rfl ?_
        refine E_iload_n dX11_looks_141 rfl ?_
        refine E_imul dX11_looks_142 ?_
        refine E_aload_n dX11_looks_143 rfl ?_
        refine E_getf 8 dX11_looks_144 fl_X11_33 (by decide) (hg_39 _) rfl ?_
        refine E_iload_n dX11_looks_147 rfl ?_
        refine E_iald dX11_looks_148 (by decide) (hg_46 _) (hgin) ?_
        refine E_iadd dX11_looks_149 ?_
        refine E_iload_n dX11_looks_150 rfl ?_
        refine E_iast dX11_looks_151 (by decide) (hg_45 _) (by rw [hgc, ec, show (60 : Int32) = nI 60 from rfl, pk_mul, nI_add]; exact vp_in_nI (by omega) (by omega)) ?_
        rw [hs_45]
        refine E_aload_n dX11_looks_152 rfl ?_
        refine E_getf 8 dX11_looks_153 fl_X11_33 (by decide) (hg_39 _) rfl ?_
        refine E_iload_n dX11_looks_156 rfl ?_
        refine E_dup2 dX11_looks_157 rfl rfl ?_
        refine E_iald (f := z.A 46) dX11_looks_158 (by decide) (hg_46 _) (hgin) ?_
        refine E_iconst (v := 1) dX11_looks_159 rfl ?_
        refine E_iadd dX11_looks_160 ?_
        refine E_iast (f := z.A 46) dX11_looks_161 (by decide) (hg_46 _) (hgin) ?_
        rw [hs_46]
        refine E_aload_n dX11_looks_162 rfl ?_
        refine E_getf 9 dX11_looks_163 fl_X11_36 (by decide) (hg_39 _) rfl ?_
        refine E_iload_n dX11_looks_166 rfl ?_
        refine E_aload_n dX11_looks_167 rfl ?_
        refine E_getf 8 dX11_looks_168 fl_X11_33 (by decide) (hg_39 _) rfl ?_
        refine E_iload_n dX11_looks_171 rfl ?_
        refine E_iald (f := upd (z.A 46) (nI g).toNatClampNeg (z.A 46 (nI g).toNatClampNeg + 1)) dX11_looks_172 (by decide) (hg_46 _) (hgin) ?_
        rw [show (upd (z.A 46) (nI g).toNatClampNeg (z.A 46 (nI g).toNatClampNeg + 1)) (nI g).toNatClampNeg = z.A 46 g + 1 by rw [hgc, pk_us]]
        refine E_iast (f := z.A 47) dX11_looks_173 (by decide) (hg_47 _) (vp_in_nI (by omega) (by omega)) ?_
        rw [hs_47]
        refine E_iincL 1 dX11_looks_174 rfl rfl (by decide) rfl ?_
        rw [nI_1]
        refine E_goto 108 dX11_looks_177 (by decide) ?_
        refine E.pick [2, 0] rfl ?_
        rw [lo3]
        first | exact (by rw [if_neg (show ¬ ¬ z.A 44 i = 0 from fun h => h c_122)]; exact ih (i + 1) z (by omega) (by omega) hF hI (fun g' h' => by obtain ⟨c', a, b⟩ := hc g' h'; exact ⟨c', by omega, b⟩)) | exact (by rw [if_pos (show ¬ z.A 44 i = 0 from c_122), eg]; exact E.heq (hp (lk z i (nI g))) (by unfold lk; rw [pk_us, hcl, hgc]) (ih (i + 1) (lk z i (nI g)) (by omega) (by omega) hF hI (lk_cnt hn hg hc)))
      · refine E_goto 174 dX11_looks_125 (by decide) ?_
        refine E_iincL 1 dX11_looks_174 rfl rfl (by decide) rfl ?_
        rw [nI_1]
        refine E_goto 108 dX11_looks_177 (by decide) ?_
        refine E.pick [1, 0] rfl ?_
        rw [lo3]
        first | exact (by rw [if_neg (show ¬ ¬ z.A 44 i = 0 from fun h => h c_122)]; exact ih (i + 1) z (by omega) (by omega) hF hI (fun g' h' => by obtain ⟨c', a, b⟩ := hc g' h'; exact ⟨c', by omega, b⟩)) | exact (by rw [if_pos (show ¬ z.A 44 i = 0 from c_122), eg]; exact E.heq (hp (lk z i (nI g))) (by unfold lk; rw [pk_us, hcl, hgc]) (ih (i + 1) (lk z i (nI g)) (by omega) (by omega) hF hI (lk_cnt hn hg hc)))
theorem l_lo2 {n : Nat} (hn : n ≤ 60) : ∀ (i : Nat) (z : Sg), i < n → z.F 39 5 = nI n → inOK n z → (∀ g, g < n → z.A 46 g = 0) → E mMod_looks 0 0 0 57 [(0, .ref 39), (1, .int (nI i))] [] (hp z) (Det none (hp (lo3 (n - 1) 1 (lo2 i z)))) := by
  intro i
  induction i with
  | zero =>
    intro z hi hF hI hc
    refine E_iload_n dX11_looks_57 rfl ?_
    refine E_if_le 106 dX11_looks_58 (by decide) (fun c_58 => ?_) (fun c_58 => ?_)
    · refine E_iconst (v := 1) dX11_looks_106 rfl ?_
      refine E_istore_n dX11_looks_107 (by decide) rfl ?_
      refine E.pick [1, 0] rfl ?_
      exact l_lo3 hn (n - 1) 1 z (by omega) (by omega) hF hI (fun g hg => ⟨0, by omega, hc g hg⟩)
    · exact absurd (by decide) c_58
  | succ i ih =>
    intro z hi hF hI hc
    have hcl : (nI (i + 1)).toNatClampNeg = i + 1 := nI_clamp (by omega)
    obtain ⟨g, hg, eg⟩ := hI (i + 1) (by omega) (by omega)
    have hgc : (nI g).toNatClampNeg = g := nI_clamp (by omega)
    have hgin : vp_in (nI g) 60 := vp_in_nI (by omega) (by omega)
    refine E_iload_n dX11_looks_57 rfl ?_
    refine E_if_le 106 dX11_looks_58 (by decide) (fun c_58 => ?_) (fun c_58 => ?_)
    · exact absurd c_58 (nI_nle (by omega) (by omega))
    · refine E_aload_n dX11_looks_61 rfl ?_
      refine E_getf 6 dX11_looks_62 fl_X11_26 (by decide) (hg_39 _) rfl ?_
      refine E_aload_n dX11_looks_65 rfl ?_
      refine E_getf 3 dX11_looks_66 fl_X11_16 (by decide) (hg_39 _) rfl ?_
      refine E_iload_n dX11_looks_69 rfl ?_
      refine E_iald dX11_looks_70 (by decide) (hg_42 _) (vp_in_nI (by omega) (by omega)) ?_
      rw [hcl, eg]
      refine E_aload_n dX11_looks_71 rfl ?_
      refine E_getf 6 dX11_looks_72 fl_X11_26 (by decide) (hg_39 _) rfl ?_
      refine E_aload_n dX11_looks_75 rfl ?_
      refine E_getf 3 dX11_looks_76 fl_X11_16 (by decide) (hg_39 _) rfl ?_
      refine E_iload_n dX11_looks_79 rfl ?_
      refine E_iald dX11_looks_80 (by decide) (hg_42 _) (vp_in_nI (by omega) (by omega)) ?_
      rw [hcl, eg]
      refine E_zald dX11_looks_81 (by decide) (hg_44 _) (hgin) ?_
      refine E_if_ne 94 dX11_looks_82 (by decide) (fun c_82 => ?_) (fun c_82 => ?_)
      · refine E_iconst (v := 1) dX11_looks_94 rfl ?_
        refine E_goto 99 dX11_looks_95 (by decide) ?_
        refine E_zast dX11_looks_99 (by decide) (hg_44 _) (hgin) ?_
        rw [hs_44, vnb1]
        refine E_iincL (-1) dX11_looks_100 rfl rfl (by decide) rfl ?_
        rw [pk_m1]
        refine E_goto 57 dX11_looks_103 (by decide) ?_
        refine E.pick [1, 0] rfl ?_
        rw [lo2]
        first | exact (by rw [b2i_t (show loC z (i + 1) from Or.inl (by rw [eg]; exact c_82)), eg]; exact ih _ (by omega) hF hI hc) | exact (by rw [b2i_t (show loC z (i + 1) from Or.inr c_91), eg]; exact ih _ (by omega) hF hI hc) | exact (by rw [b2i_f (show ¬ loC z (i + 1) from fun h => h.elim (fun h => h (by rw [eg]; exact c_82)) (fun h => h c_91)), eg]; exact ih _ (by omega) hF hI hc)
      · refine E_aload_n dX11_looks_85 rfl ?_
        refine E_getf 6 dX11_looks_86 fl_X11_26 (by decide) (hg_39 _) rfl ?_
        refine E_iload_n dX11_looks_89 rfl ?_
        refine E_zald dX11_looks_90 (by decide) (hg_44 _) (vp_in_nI (by omega) (by omega)) ?_
        rw [hcl]
        refine E_if_eq 98 dX11_looks_91 (by decide) (fun c_91 => ?_) (fun c_91 => ?_)
        · refine E_iconst (v := 0) dX11_looks_98 rfl ?_
          refine E_zast dX11_looks_99 (by decide) (hg_44 _) (hgin) ?_
          rw [hs_44, vnb0]
          refine E_iincL (-1) dX11_looks_100 rfl rfl (by decide) rfl ?_
          rw [pk_m1]
          refine E_goto 57 dX11_looks_103 (by decide) ?_
          refine E.pick [1, 0] rfl ?_
          rw [lo2]
          first | exact (by rw [b2i_t (show loC z (i + 1) from Or.inl (by rw [eg]; exact c_82)), eg]; exact ih _ (by omega) hF hI hc) | exact (by rw [b2i_t (show loC z (i + 1) from Or.inr c_91), eg]; exact ih _ (by omega) hF hI hc) | exact (by rw [b2i_f (show ¬ loC z (i + 1) from fun h => h.elim (fun h => h (by rw [eg]; exact c_82)) (fun h => h c_91)), eg]; exact ih _ (by omega) hF hI hc)
        · refine E_iconst (v := 1) dX11_looks_94 rfl ?_
          refine E_goto 99 dX11_looks_95 (by decide) ?_
          refine E_zast dX11_looks_99 (by decide) (hg_44 _) (hgin) ?_
          rw [hs_44, vnb1]
          refine E_iincL (-1) dX11_looks_100 rfl rfl (by decide) rfl ?_
          rw [pk_m1]
          refine E_goto 57 dX11_looks_103 (by decide) ?_
          refine E.pick [1, 0] rfl ?_
          rw [lo2]
          first | exact (by rw [b2i_t (show loC z (i + 1) from Or.inl (by rw [eg]; exact c_82)), eg]; exact ih _ (by omega) hF hI hc) | exact (by rw [b2i_t (show loC z (i + 1) from Or.inr c_91), eg]; exact ih _ (by omega) hF hI hc) | exact (by rw [b2i_f (show ¬ loC z (i + 1) from fun h => h.elim (fun h => h (by rw [eg]; exact c_82)) (fun h => h c_91)), eg]; exact ih _ (by omega) hF hI hc)
theorem l_lo1 {n : Nat} (h1 : 1 ≤ n) (hn : n ≤ 60) : ∀ (m i : Nat) (z : Sg), i + m = n → z.F 39 5 = nI n → inOK n z → (∀ g, g < i → z.A 46 g = 0) → E mMod_looks 0 0 0 2 [(0, .ref 39), (1, .int (nI i))] [] (hp z) (Det none (hp (lo3 (n - 1) 1 (lo2 (n - 1) (lo1 m i z))))) := by
  intro m
  induction m with
  | zero =>
    intro i z hi hF hI hc
    refine E_iload_n dX11_looks_2 rfl ?_
    refine E_aload_n dX11_looks_3 rfl ?_
    refine E_getf 5 dX11_looks_4 fl_X11_22 (by decide) (hg_39 _) rfl ?_
    rw [hF]
    refine E_icmp_ge 50 dX11_looks_7 (by decide) (fun c_7 => ?_) (fun c_7 => ?_)
    · refine E_aload_n dX11_looks_50 rfl ?_
      refine E_getf 5 dX11_looks_51 fl_X11_22 (by decide) (hg_39 _) rfl ?_
      refine E_iconst (v := 1) dX11_looks_54 rfl ?_
      rw [hF]
      refine E_isub dX11_looks_55 ?_
      rw [show nI n - 1 = nI (n - 1) from pk_sub (b := 1) h1]
      refine E_istore_n dX11_looks_56 (by decide) rfl ?_
      refine E.pick [1, 0] rfl ?_
      exact l_lo2 hn (n - 1) z (by omega) hF hI (fun g hg => hc g (by omega))
    · exact absurd (nI_le (by omega) (by omega)) c_7
  | succ m ih =>
    intro i z hi hF hI hc
    have hcl : (nI i).toNatClampNeg = i := nI_clamp (by omega)
    refine E_iload_n dX11_looks_2 rfl ?_
    refine E_aload_n dX11_looks_3 rfl ?_
    refine E_getf 5 dX11_looks_4 fl_X11_22 (by decide) (hg_39 _) rfl ?_
    rw [hF]
    refine E_icmp_ge 50 dX11_looks_7 (by decide) (fun c_7 => ?_) (fun c_7 => ?_)
    · exact absurd c_7 (nI_ge (by omega) (by omega))
    · refine E_aload_n dX11_looks_10 rfl ?_
      refine E_getf 6 dX11_looks_11 fl_X11_26 (by decide) (hg_39 _) rfl ?_
      refine E_iload_n dX11_looks_14 rfl ?_
      refine E_aload_n dX11_looks_15 rfl ?_
      refine E_getf 1 dX11_looks_16 fl_X11_9 (by decide) (hg_39 _) rfl ?_
      refine E_iload_n dX11_looks_19 rfl ?_
      refine E_iald dX11_looks_20 (by decide) (hg_40 _) (vp_in_nI (by omega) (by omega)) ?_
      rw [hcl]
      refine E_if_eq 28 dX11_looks_21 (by decide) (fun c_21 => ?_) (fun c_21 => ?_)
      · refine E_iconst (v := 0) dX11_looks_28 rfl ?_
        refine E_zast dX11_looks_29 (by decide) (hg_44 _) (vp_in_nI (by omega) (by omega)) ?_
        rw [hs_44, vnb0]
        refine E_aload_n dX11_looks_30 rfl ?_
        refine E_getf 8 dX11_looks_31 fl_X11_33 (by decide) (hg_39 _) rfl ?_
        refine E_iload_n dX11_looks_34 rfl ?_
        refine E_iconst (v := 0) dX11_looks_35 rfl ?_
        refine E_iast (f := z.A 46) dX11_looks_36 (by decide) (hg_46 _) (vp_in_nI (by omega) (by omega)) ?_
        rw [hs_46]
        refine E_aload_n dX11_looks_37 rfl ?_
        refine E_getf 9 dX11_looks_38 fl_X11_36 (by decide) (hg_39 _) rfl ?_
        refine E_iload_n dX11_looks_41 rfl ?_
        refine E_iconst (v := (-1)) dX11_looks_42 rfl ?_
        refine E_iast (f := z.A 47) dX11_looks_43 (by decide) (hg_47 _) (vp_in_nI (by omega) (by omega)) ?_
        rw [hs_47]
        rw [hcl]
        refine E_iincL 1 dX11_looks_44 rfl rfl (by decide) rfl ?_
        rw [nI_1]
        refine E_goto 2 dX11_looks_47 (by decide) ?_
        refine E.pick [1, 0] rfl ?_
        rw [lo1]
        have hc2 : ∀ g, g < i + 1 → upd (z.A 46) i 0 g = 0 := fun g hg => by
          by_cases e : g = i
          · rw [e, pk_us]
          · rw [pk_un e]; exact hc g (by omega)
        first | exact (by rw [b2i_f (p := ¬ z.A 40 i = 0) (fun h => h c_21)]; exact ih (i + 1) _ (by omega) hF hI hc2) | exact (by rw [b2i_t (p := ¬ z.A 40 i = 0) c_21]; exact ih (i + 1) _ (by omega) hF hI hc2)
      · refine E_iconst (v := 1) dX11_looks_24 rfl ?_
        refine E_goto 29 dX11_looks_25 (by decide) ?_
        refine E_zast dX11_looks_29 (by decide) (hg_44 _) (vp_in_nI (by omega) (by omega)) ?_
        rw [hs_44, vnb1]
        refine E_aload_n dX11_looks_30 rfl ?_
        refine E_getf 8 dX11_looks_31 fl_X11_33 (by decide) (hg_39 _) rfl ?_
        refine E_iload_n dX11_looks_34 rfl ?_
        refine E_iconst (v := 0) dX11_looks_35 rfl ?_
        refine E_iast (f := z.A 46) dX11_looks_36 (by decide) (hg_46 _) (vp_in_nI (by omega) (by omega)) ?_
        rw [hs_46]
        refine E_aload_n dX11_looks_37 rfl ?_
        refine E_getf 9 dX11_looks_38 fl_X11_36 (by decide) (hg_39 _) rfl ?_
        refine E_iload_n dX11_looks_41 rfl ?_
        refine E_iconst (v := (-1)) dX11_looks_42 rfl ?_
        refine E_iast (f := z.A 47) dX11_looks_43 (by decide) (hg_47 _) (vp_in_nI (by omega) (by omega)) ?_
        rw [hs_47]
        rw [hcl]
        refine E_iincL 1 dX11_looks_44 rfl rfl (by decide) rfl ?_
        rw [nI_1]
        refine E_goto 2 dX11_looks_47 (by decide) ?_
        refine E.pick [1, 0] rfl ?_
        rw [lo1]
        have hc2 : ∀ g, g < i + 1 → upd (z.A 46) i 0 g = 0 := fun g hg => by
          by_cases e : g = i
          · rw [e, pk_us]
          · rw [pk_un e]; exact hc g (by omega)
        first | exact (by rw [b2i_f (p := ¬ z.A 40 i = 0) (fun h => h c_21)]; exact ih (i + 1) _ (by omega) hF hI hc2) | exact (by rw [b2i_t (p := ¬ z.A 40 i = 0) c_21]; exact ih (i + 1) _ (by omega) hF hI hc2)
theorem c_looks {n : Nat} (h1 : 1 ≤ n) (hn : n ≤ 60) (z : Sg) (hF : z.F 39 5 = nI n) (hI : inOK n z) : EM mMod_looks 0 0 0 [.ref 39] (hp z) (Det none (hp (zlk n z))) := by
  refine E_iconst (v := 0) dX11_looks_0 rfl ?_
  refine E_istore_n dX11_looks_1 (by decide) rfl ?_
  refine E.pick [1, 0] rfl ?_
  exact l_lo1 h1 hn n 0 z (by omega) hF hI (fun g hg => absurd hg (Nat.not_lt_zero g))
