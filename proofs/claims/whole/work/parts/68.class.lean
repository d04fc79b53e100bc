set_option maxHeartbeats 1000000 in
theorem c10_sets {I : Nat → Nat → Int32} {L : Nat → Nat → Int64} {R : Nat → Nat → Option Nat} (hR : aRf R) {z : jZ} (hz : clRep I z) : aM mX10_sets [.ref 8] (sh0, I, L, R) (fun ans h' => ans = some (.int (nI (jS z.1).length)) ∧ ∃ I' L', h' = (sh0, I', L', R) ∧ clRep I' z ∧ clK I I' ∧ clKL L L') := by
  obtain ⟨hc, hr, hg, hw, h10, h11, hpc, hcz, hpz, htx⟩ := id hz
  have hn := hc.2.1.1
  have hSl := jS_len z.1
  refine aM_of plX10_sets (Nat.le_of_ble_eq_true rfl) ?_
  refine aX_aload_n dX10_sets_0 rfl ?_
  refine aX_get dX10_sets_1 lfX10_23 s8 (f8_2 hR) ?_
  refine aX_get (v := .int (nI ((jS z.1).length))) dX10_sets_4 lfX10_135 s16 (congrArg Value.int (hc.2.2.2.1.1)) ?_
  exact rI dX10_sets_7 rfl (⟨rfl, I, L, rfl, hz, fun _ _ _ => rfl, fun _ _ _ => rfl⟩)
set_option maxHeartbeats 1000000 in
theorem c10_set {I : Nat → Nat → Int32} {L : Nat → Nat → Int64} {R : Nat → Nat → Option Nat} (hR : aRf R) {z : jZ} (hz : clRep I z) {x y : Int32} : aM mX10_set [.ref 8, .int x, .int y] (sh0, I, L, R) (fun ans h' => ans = some (.int (oSet z x y)) ∧ ∃ I' L', h' = (sh0, I', L', R) ∧ clRep I' z ∧ clK I I' ∧ clKL L L') := by
  obtain ⟨hc, hr, hg, hw, h10, h11, hpc, hcz, hpz, htx⟩ := id hz
  have hn := hc.2.1.1
  have hSl := jS_len z.1
  refine aM_of plX10_set (Nat.le_of_ble_eq_true rfl) ?_
  refine aX_aload_n dX10_set_0 rfl ?_
  refine aX_get dX10_set_1 lfX10_23 s8 (f8_2 hR) ?_
  refine aX_iload_n dX10_set_4 rfl ?_
  refine cVp (As := [.int (x)]) (st := []) (v := .int (bI (jIx x (jS z.1).length))) dX10_set_5 kX10_set_139 s16 aEok0 rfl rfl (Nat.le_of_ble_eq_true rfl) (c_hasSetX hR hc) ?_
  refine bNe (tgt := 13) dX10_set_8 (by decide) (fun c1 => ?_) (fun c1 => ?_)
  · obtain ⟨k, hk, rfl⟩ := jIx_t (by omega) c1
    obtain ⟨q, hq, hqb⟩ := jQ hk
    have hse := hc.2.2.2.1.2 k q hq
    have hcl : cn0 (nI k) = k := nI_clamp (by omega)
    refine aX_iload_n dX10_set_13 rfl ?_
    by_cases e0 : y = nI 0
    · subst e0
      refine aX_tableIn (off := 34) (tgt := 48) dX10_set_14 (by decide) (by decide) rfl (by decide) ?_
      refine aX_aload_n dX10_set_48 rfl ?_
      refine aX_get dX10_set_49 lfX10_23 s8 (f8_2 hR) ?_
      refine aX_get dX10_set_52 lfX10_142 s16 (f16_6 hR) ?_
      refine aX_iload_n dX10_set_55 rfl ?_
      refine nIald (v := nI (q.1)) dX10_set_56 s21 (by first | omega | exact Nat.lt_of_le_of_lt (Nat.mod_le _ _) (by omega)) (by decide) (hse.1) ?_
      exact rI dX10_set_57 rfl (⟨by rw [show oSet z (nI k) (nI 0) = nI (q.1) by unfold oSet; rw [if_pos c1]; rw [if_pos rfl]; simp only [hcl]; rw [getD_of hq]], I, L, rfl, hz, fun _ _ _ => rfl, fun _ _ _ => rfl⟩)
    · by_cases e1 : y = nI 1
      · subst e1
        refine aX_tableIn (off := 44) (tgt := 58) dX10_set_14 (by decide) (by decide) rfl (by decide) ?_
        refine aX_aload_n dX10_set_58 rfl ?_
        refine aX_get dX10_set_59 lfX10_23 s8 (f8_2 hR) ?_
        refine aX_get dX10_set_62 lfX10_145 s16 (f16_7 hR) ?_
        refine aX_iload_n dX10_set_65 rfl ?_
        refine nIald (v := nI (q.2)) dX10_set_66 s22 (by first | omega | exact Nat.lt_of_le_of_lt (Nat.mod_le _ _) (by omega)) (by decide) (hse.2.1) ?_
        exact rI dX10_set_67 rfl (⟨by rw [show oSet z (nI k) (nI 1) = nI (q.2) by unfold oSet; rw [if_pos c1]; rw [if_neg (by decide)]; rw [if_pos rfl]; simp only [hcl]; rw [getD_of hq]], I, L, rfl, hz, fun _ _ _ => rfl, fun _ _ _ => rfl⟩)
      · by_cases e2 : y = nI 2
        · subst e2
          refine aX_tableIn (off := 54) (tgt := 68) dX10_set_14 (by decide) (by decide) rfl (by decide) ?_
          refine aX_aload_n dX10_set_68 rfl ?_
          refine aX_get dX10_set_69 lfX10_23 s8 (f8_2 hR) ?_
          refine aX_get dX10_set_72 lfX10_148 s16 (f16_8 hR) ?_
          refine aX_iload_n dX10_set_75 rfl ?_
          refine nIald (v := nI (jBase z.1 q.1)) dX10_set_76 s23 (by first | omega | exact Nat.lt_of_le_of_lt (Nat.mod_le _ _) (by omega)) (by decide) (hse.2.2.1) ?_
          exact rI dX10_set_77 rfl (⟨by rw [show oSet z (nI k) (nI 2) = nI (jBase z.1 q.1) by unfold oSet; rw [if_pos c1]; rw [if_neg (by decide)]; rw [if_neg (by decide)]; rw [if_pos rfl]; simp only [hcl]; rw [← hqb]], I, L, rfl, hz, fun _ _ _ => rfl, fun _ _ _ => rfl⟩)
        · by_cases e3 : y = nI 3
          · subst e3
            refine aX_tableIn (off := 64) (tgt := 78) dX10_set_14 (by decide) (by decide) rfl (by decide) ?_
            refine aX_aload_n dX10_set_78 rfl ?_
            refine aX_get dX10_set_79 lfX10_23 s8 (f8_2 hR) ?_
            refine aX_get dX10_set_82 lfX10_151 s16 (f16_9 hR) ?_
            refine aX_iload_n dX10_set_85 rfl ?_
            refine nIald (v := nI (jSnd z.1 q.1)) dX10_set_86 s24 (by first | omega | exact Nat.lt_of_le_of_lt (Nat.mod_le _ _) (by omega)) (by decide) (hse.2.2.2.1) ?_
            exact rI dX10_set_87 rfl (⟨by rw [show oSet z (nI k) (nI 3) = nI (jSnd z.1 q.1) by unfold oSet; rw [if_pos c1]; rw [if_neg (by decide)]; rw [if_neg (by decide)]; rw [if_neg (by decide)]; rw [if_pos rfl]; simp only [hcl]; rw [← hqb]], I, L, rfl, hz, fun _ _ _ => rfl, fun _ _ _ => rfl⟩)
          · by_cases e4 : y = nI 4
            · subst e4
              refine aX_tableIn (off := 74) (tgt := 88) dX10_set_14 (by decide) (by decide) rfl (by decide) ?_
              refine aX_aload_n dX10_set_88 rfl ?_
              refine aX_get dX10_set_89 lfX10_55 s8 (f8_3 hR) ?_
              refine aX_iload_n dX10_set_92 rfl ?_
              refine cVp (As := [.int (nI (k))]) (st := []) (v := .int (nI (jCo z.1 z.2.1 q.1))) dX10_set_93 kX10_set_154 s39 aEok0 rfl rfl (Nat.le_of_ble_eq_true rfl) (c_countOf hR hc hq hr) ?_
              exact rI dX10_set_96 rfl (⟨by rw [show oSet z (nI k) (nI 4) = nI (jCo z.1 z.2.1 q.1) by unfold oSet; rw [if_pos c1]; rw [if_neg (by decide)]; rw [if_neg (by decide)]; rw [if_neg (by decide)]; rw [if_neg (by decide)]; rw [if_pos rfl]; simp only [hcl]; rw [← hqb]], I, L, rfl, hz, fun _ _ _ => rfl, fun _ _ _ => rfl⟩)
            · refine aX_tableOut (tgt := 97) dX10_set_14 (sw_out (n := 4) (by decide) (fun v hv => by
                rcases (show v = 0 ∨ v = 1 ∨ v = 2 ∨ v = 3 ∨ v = 4 by omega) with q | q | q | q | q <;> rw [q] <;> assumption)) (by decide) ?_
              refine aX_iconst (v := (-1)) dX10_set_97 (by decide) ?_
              exact rI dX10_set_98 rfl (⟨by rw [show oSet z (nI k) y = -1 by unfold oSet; rw [if_pos c1, if_neg e0, if_neg e1, if_neg e2, if_neg e3, if_neg e4]], I, L, rfl, hz, fun _ _ _ => rfl, fun _ _ _ => rfl⟩)
  · refine aX_iconst (v := (-1)) dX10_set_11 (by decide) ?_
    exact rI dX10_set_12 rfl (⟨by rw [show oSet z x y = -1 by unfold oSet; rw [if_neg (by simp [c1])]], I, L, rfl, hz, fun _ _ _ => rfl, fun _ _ _ => rfl⟩)
set_option maxHeartbeats 1000000 in
theorem c10_sounds {I : Nat → Nat → Int32} {L : Nat → Nat → Int64} {R : Nat → Nat → Option Nat} (hR : aRf R) {z : jZ} (hz : clRep I z) {x y : Int32} : aM mX10_sounds [.ref 8, .int x, .int y] (sh0, I, L, R) (fun ans h' => ans = some (.int (oSounds z x y)) ∧ ∃ I' L', h' = (sh0, I', L', R) ∧ clRep I' z ∧ clK I I' ∧ clKL L L') := by
  obtain ⟨hc, hr, hg, hw, h10, h11, hpc, hcz, hpz, htx⟩ := id hz
  have hn := hc.2.1.1
  have hSl := jS_len z.1
  refine aM_of plX10_sounds (Nat.le_of_ble_eq_true rfl) ?_
  refine aX_aload_n dX10_sounds_0 rfl ?_
  refine aX_get dX10_sounds_1 lfX10_23 s8 (f8_2 hR) ?_
  refine aX_iload_n dX10_sounds_4 rfl ?_
  refine cVp (As := [.int (x)]) (st := []) (v := .int (bI (jIx x (jS z.1).length))) dX10_sounds_5 kX10_sounds_139 s16 aEok0 rfl rfl (Nat.le_of_ble_eq_true rfl) (c_hasSetX hR hc) ?_
  refine bEq (tgt := 22) dX10_sounds_8 (by decide) (fun c1 => ?_) (fun c1 => ?_)
  · refine aX_iconst (v := (-1)) dX10_sounds_22 (by decide) ?_
    exact rI dX10_sounds_23 rfl (⟨by rw [show oSounds z x y = -1 by unfold oSounds; rw [if_neg (by simp [c1])]], I, L, rfl, hz, fun _ _ _ => rfl, fun _ _ _ => rfl⟩)
  · obtain ⟨k, hk, rfl⟩ := jIx_t (by omega) c1
    obtain ⟨q, hq, hqb⟩ := jQ hk
    refine aX_aload_n dX10_sounds_11 rfl ?_
    refine aX_get dX10_sounds_12 lfX10_23 s8 (f8_2 hR) ?_
    refine aX_iload_n dX10_sounds_15 rfl ?_
    refine cVp (As := [.int (y)]) (st := []) (v := .int (bI (jIx y z.1.1))) dX10_sounds_16 kX10_sounds_110 s16 aEok0 rfl rfl (Nat.le_of_ble_eq_true rfl) (c_hasNoteX hR hc) ?_
    refine bNe (tgt := 24) dX10_sounds_19 (by decide) (fun c2 => ?_) (fun c2 => ?_)
    · obtain ⟨m, hm, rfl⟩ := jIx_t (by omega) c2
      refine aX_aload_n dX10_sounds_24 rfl ?_
      refine aX_get dX10_sounds_25 lfX10_23 s8 (f8_2 hR) ?_
      refine aX_iload_n dX10_sounds_28 rfl ?_
      refine aX_iload_n dX10_sounds_29 rfl ?_
      refine cVp (As := [.int (nI (k)), .int (nI (m))]) (st := []) (v := .int (bI (jOn z.1 m q.1))) dX10_sounds_30 kX10_sounds_157 s16 aEok0 rfl rfl (Nat.le_of_ble_eq_true rfl) (c_isIn hR hc.1 hc.2.1 hc.2.2.2.1 hq (by omega) hm (by have := jS_in hq; omega)) ?_
      refine bEq (tgt := 40) dX10_sounds_33 (by decide) (fun c3 => ?_) (fun c3 => ?_)
      · refine aX_iconst (v := nI 0) dX10_sounds_40 (by decide) ?_
        exact rI dX10_sounds_41 rfl (⟨by rw [show oSounds z (nI k) (nI m) = nI 0 by unfold oSounds; rw [if_pos (by rw [c1, c2]; rfl)]; simp only [nI_clamp (show k < 2 ^ 31 by omega), nI_clamp (show m < 2 ^ 31 by omega)]; rw [← hqb, c3]; rfl], I, L, rfl, hz, fun _ _ _ => rfl, fun _ _ _ => rfl⟩)
      · refine aX_iconst (v := nI 1) dX10_sounds_36 (by decide) ?_
        refine aX_goto (tgt := 41) dX10_sounds_37 (by decide) ?_
        exact rI dX10_sounds_41 rfl (⟨by rw [show oSounds z (nI k) (nI m) = nI 1 by unfold oSounds; rw [if_pos (by rw [c1, c2]; rfl)]; simp only [nI_clamp (show k < 2 ^ 31 by omega), nI_clamp (show m < 2 ^ 31 by omega)]; rw [← hqb, c3]; rfl], I, L, rfl, hz, fun _ _ _ => rfl, fun _ _ _ => rfl⟩)
    · refine aX_iconst (v := (-1)) dX10_sounds_22 (by decide) ?_
      exact rI dX10_sounds_23 rfl (⟨by rw [show oSounds z (nI k) y = -1 by unfold oSounds; rw [if_neg (by simp [c2])]], I, L, rfl, hz, fun _ _ _ => rfl, fun _ _ _ => rfl⟩)
set_option maxHeartbeats 1000000 in
theorem c10_reading {I : Nat → Nat → Int32} {L : Nat → Nat → Int64} {R : Nat → Nat → Option Nat} (hR : aRf R) {z : jZ} (hz : clRep I z) {x rd0 y v : Int32} : aM mX10_reading [.ref 8, .int x, .int rd0, .int y, .int v] (sh0, I, L, R) (fun ans h' => ans = some (.int (oReading z x rd0 y v)) ∧ ∃ I' L', h' = (sh0, I', L', R) ∧ clRep I' z ∧ clK I I' ∧ clKL L L') := by
  obtain ⟨hc, hr, hg, hw, h10, h11, hpc, hcz, hpz, htx⟩ := id hz
  have hn := hc.2.1.1
  have hSl := jS_len z.1
  have h729 : ∀ b, jCo z.1 z.2.1 b < 2 ^ 31 := fun b => by have := jCo_729 (s := z.1) (b := b) hc.2.2.1 hr.1; omega
  refine aM_of plX10_reading (Nat.le_of_ble_eq_true rfl) ?_
  refine aX_aload_n dX10_reading_0 rfl ?_
  refine aX_get dX10_reading_1 lfX10_55 s8 (f8_3 hR) ?_
  refine aX_iload_n dX10_reading_4 rfl ?_
  refine aX_iload_n dX10_reading_5 rfl ?_
  refine cVp (As := [.int (x), .int (rd0)]) (st := []) (v := .int (bI (jHasRd z.1 z.2.1 x rd0))) dX10_reading_6 kX10_reading_160 s39 aEok0 rfl rfl (Nat.le_of_ble_eq_true rfl) (c_has hR hc hr) ?_
  refine bEq (tgt := 24) dX10_reading_9 (by decide) (fun c1 => ?_) (fun c1 => ?_)
  · refine aX_iconst (v := (-1)) dX10_reading_24 (by decide) ?_
    exact rI dX10_reading_25 rfl (⟨by rw [show oReading z x rd0 y v = -1 by unfold oReading; rw [if_neg (by simp [c1])]], I, L, rfl, hz, fun _ _ _ => rfl, fun _ _ _ => rfl⟩)
  · refine aX_aload_n dX10_reading_12 rfl ?_
    refine aX_get dX10_reading_13 lfX10_23 s8 (f8_2 hR) ?_
    refine aX_iload_n dX10_reading_16 rfl ?_
    refine aX_iload_n dX10_reading_17 rfl ?_
    refine cVp (As := [.int (x), .int (y)]) (st := []) (v := .int (bI (jPart z.1 x y))) dX10_reading_18 kX10_reading_163 s16 aEok0 rfl rfl (Nat.le_of_ble_eq_true rfl) (c_isPart hR hc) ?_
    refine bNe (tgt := 26) dX10_reading_21 (by decide) (fun c2 => ?_) (fun c2 => ?_)
    · obtain ⟨k, rd, hk, rfl, rfl, hrd⟩ := jHasRd_t h729 c1
      obtain ⟨k2, m, hk2, hm, e, rfl, hon⟩ := jPart_t2 hn c2
      obtain rfl : k = k2 := nI_inj (by omega) (by omega) e
      obtain ⟨q, hq, hqb⟩ := jQ hk
      have hrl := h729 (jB z.1 k)
      have hmq : m ∈ jMem z.1 q.1 := jML_mem.mpr ⟨hm, by rw [hqb]; exact hon⟩
      refine aX_aload_n dX10_reading_26 rfl ?_
      refine aX_get dX10_reading_27 lfX10_55 s8 (f8_3 hR) ?_
      refine aX_iload_n dX10_reading_30 rfl ?_
      refine aX_iload_n dX10_reading_31 rfl ?_
      refine cV (As := [.int (nI (k)), .int (nI (rd))]) (st := []) dX10_reading_32 kX10_reading_166 s39 aEok0 rfl rfl (Nat.le_of_ble_eq_true rfl) (c_open hR hc hq hr (by omega)) (fun ans' h' hq9 => ?_)
      obtain ⟨rfl, I2, rfl, hop, hk2⟩ := hq9
      refine ⟨rfl, ?_⟩
      have hr2 := rRep_op hk2 hr
      have hc2 := cRep_op hk2 hc
      have hz2 := clRep_same (fun a j g => hk2 a j (by omega)) hz
      refine aX_iload dX10_reading_35 rfl ?_
      by_cases e0 : v = nI 0
      · subst e0
        refine aX_tableIn (off := 27) (tgt := 64) dX10_reading_37 (by decide) (by decide) rfl (by decide) ?_
        refine aX_aload_n dX10_reading_64 rfl ?_
        refine aX_get dX10_reading_65 lfX10_16 s8 (f8_1 hR) ?_
        refine aX_get dX10_reading_68 lfX10_170 s10 (f10_0 hR) ?_
        refine aX_aload_n dX10_reading_71 rfl ?_
        refine aX_get dX10_reading_72 lfX10_55 s8 (f8_3 hR) ?_
        refine aX_get dX10_reading_75 lfX10_173 s39 (f39_2 hR) ?_
        refine aX_iload_n dX10_reading_78 rfl ?_
        refine nIald (v := nI (jSl z.1 z.2.1 q.1 rd m)) dX10_reading_79 s40 (by first | omega | exact slOk_lt hr.1 (jSl_ok _ _ _ _ _)) (by decide) (hop m hmq) ?_
        refine nIald (v := nI (jU z.2.1 (jSl z.1 z.2.1 q.1 rd m))) dX10_reading_80 s11 (by first | omega | exact slOk_lt hr.1 (jSl_ok _ _ _ _ _)) (by decide) ((slOk_rep hr2 (jSl_ok _ _ _ _ _)).1) ?_
        exact rI dX10_reading_81 rfl (⟨by rw [show oReading z (nI k) (nI rd) (nI m) (nI 0) = nI (jU z.2.1 (jSl z.1 z.2.1 q.1 rd m)) by unfold oReading; rw [if_pos (by rw [c1, c2]; rfl)]; rw [if_pos rfl]; simp only [nI_clamp (show k < 2 ^ 31 by omega), nI_clamp (show rd < 2 ^ 31 by omega), nI_clamp (show m < 2 ^ 31 by omega)]; rw [← hqb]], I2, L, rfl, hz2, fun a j g => hk2 a j (by omega), fun _ _ _ => rfl⟩)
      · by_cases e1 : v = nI 1
        · subst e1
          refine aX_tableIn (off := 45) (tgt := 82) dX10_reading_37 (by decide) (by decide) rfl (by decide) ?_
          refine aX_aload_n dX10_reading_82 rfl ?_
          refine aX_get dX10_reading_83 lfX10_16 s8 (f8_1 hR) ?_
          refine aX_get dX10_reading_86 lfX10_176 s10 (f10_1 hR) ?_
          refine aX_aload_n dX10_reading_89 rfl ?_
          refine aX_get dX10_reading_90 lfX10_55 s8 (f8_3 hR) ?_
          refine aX_get dX10_reading_93 lfX10_173 s39 (f39_2 hR) ?_
          refine aX_iload_n dX10_reading_96 rfl ?_
          refine nIald (v := nI (jSl z.1 z.2.1 q.1 rd m)) dX10_reading_97 s40 (by first | omega | exact slOk_lt hr.1 (jSl_ok _ _ _ _ _)) (by decide) (hop m hmq) ?_
          refine nIald (v := nI (jD z.2.1 (jSl z.1 z.2.1 q.1 rd m))) dX10_reading_98 s12 (by first | omega | exact slOk_lt hr.1 (jSl_ok _ _ _ _ _)) (by decide) ((slOk_rep hr2 (jSl_ok _ _ _ _ _)).2.1) ?_
          exact rI dX10_reading_99 rfl (⟨by rw [show oReading z (nI k) (nI rd) (nI m) (nI 1) = nI (jD z.2.1 (jSl z.1 z.2.1 q.1 rd m)) by unfold oReading; rw [if_pos (by rw [c1, c2]; rfl)]; rw [if_neg (by decide)]; rw [if_pos rfl]; simp only [nI_clamp (show k < 2 ^ 31 by omega), nI_clamp (show rd < 2 ^ 31 by omega), nI_clamp (show m < 2 ^ 31 by omega)]; rw [← hqb]], I2, L, rfl, hz2, fun a j g => hk2 a j (by omega), fun _ _ _ => rfl⟩)
        · by_cases e2 : v = nI 2
          · subst e2
            refine aX_tableIn (off := 63) (tgt := 100) dX10_reading_37 (by decide) (by decide) rfl (by decide) ?_
            refine aX_aload_n dX10_reading_100 rfl ?_
            refine aX_get dX10_reading_101 lfX10_55 s8 (f8_3 hR) ?_
            refine aX_iload_n dX10_reading_104 rfl ?_
            refine aX_iload_n dX10_reading_105 rfl ?_
            refine cVp (As := [.int (nI (k)), .int (nI (m))]) (st := []) (v := .int (jTg z.1 z.2.1 q.1 rd m)) dX10_reading_106 kX10_reading_179 s39 aEok0 rfl rfl (Nat.le_of_ble_eq_true rfl) (c_targetOf hR hc2 hq hm (by rw [hqb]; exact hon) hr2 hop) ?_
            exact rI dX10_reading_109 rfl (⟨by rw [show oReading z (nI k) (nI rd) (nI m) (nI 2) = jTg z.1 z.2.1 q.1 rd m by unfold oReading; rw [if_pos (by rw [c1, c2]; rfl)]; rw [if_neg (by decide)]; rw [if_neg (by decide)]; rw [if_pos rfl]; simp only [nI_clamp (show k < 2 ^ 31 by omega), nI_clamp (show rd < 2 ^ 31 by omega), nI_clamp (show m < 2 ^ 31 by omega)]; rw [← hqb]], I2, L, rfl, hz2, fun a j g => hk2 a j (by omega), fun _ _ _ => rfl⟩)
          · refine aX_tableOut (tgt := 110) dX10_reading_37 (sw_out (n := 2) (by decide) (fun v hv => by
              rcases (show v = 0 ∨ v = 1 ∨ v = 2 by omega) with q | q | q <;> rw [q] <;> assumption)) (by decide) ?_
            refine aX_iconst (v := (-1)) dX10_reading_110 (by decide) ?_
            exact rI dX10_reading_111 rfl (⟨by rw [show oReading z (nI k) (nI rd) (nI m) v = -1 by unfold oReading; rw [if_pos (by rw [c1, c2]; rfl)]; rw [if_neg e0, if_neg e1, if_neg e2]], I2, L, rfl, hz2, fun a j g => hk2 a j (by omega), fun _ _ _ => rfl⟩)
    · refine aX_iconst (v := (-1)) dX10_reading_24 (by decide) ?_
      exact rI dX10_reading_25 rfl (⟨by rw [show oReading z x rd0 y v = -1 by unfold oReading; rw [if_neg (by simp [c2])]], I, L, rfl, hz, fun _ _ _ => rfl, fun _ _ _ => rfl⟩)
set_option maxHeartbeats 1000000 in
theorem c10_harsh {I : Nat → Nat → Int32} {L : Nat → Nat → Int64} {R : Nat → Nat → Option Nat} (hR : aRf R) {z : jZ} (hz : clRep I z) {x y : Int32} : aM mX10_harsh [.ref 8, .int x, .int y] (sh0, I, L, R) (fun ans h' => ans = some (.int (oHarsh z x y)) ∧ ∃ I' L', h' = (sh0, I', L', R) ∧ clRep I' z ∧ clK I I' ∧ clKL L L') := by
  obtain ⟨hc, hr, hg, hw, h10, h11, hpc, hcz, hpz, htx⟩ := id hz
  have hn := hc.2.1.1
  have hSl := jS_len z.1
  have h729 : ∀ b, jCo z.1 z.2.1 b < 2 ^ 31 := fun b => by have := jCo_729 (s := z.1) (b := b) hc.2.2.1 hr.1; omega
  refine aM_of plX10_harsh (Nat.le_of_ble_eq_true rfl) ?_
  refine aX_aload_n dX10_harsh_0 rfl ?_
  refine aX_get dX10_harsh_1 lfX10_55 s8 (f8_3 hR) ?_
  refine aX_iload_n dX10_harsh_4 rfl ?_
  refine aX_iload_n dX10_harsh_5 rfl ?_
  refine cVp (As := [.int (x), .int (y)]) (st := []) (v := .int (bI (jHasRd z.1 z.2.1 x y))) dX10_harsh_6 kX10_harsh_160 s39 aEok0 rfl rfl (Nat.le_of_ble_eq_true rfl) (c_has hR hc hr) ?_
  refine bNe (tgt := 14) dX10_harsh_9 (by decide) (fun c1 => ?_) (fun c1 => ?_)
  · obtain ⟨k, rd, hk, rfl, rfl, hrd⟩ := jHasRd_t h729 c1
    obtain ⟨q, hq, hqb⟩ := jQ hk
    have hrl := h729 (jB z.1 k)
    refine aX_aload_n dX10_harsh_14 rfl ?_
    refine aX_get dX10_harsh_15 lfX10_55 s8 (f8_3 hR) ?_
    refine aX_iload_n dX10_harsh_18 rfl ?_
    refine aX_iload_n dX10_harsh_19 rfl ?_
    refine cV (As := [.int (nI (k)), .int (nI (rd))]) (st := []) dX10_harsh_20 kX10_harsh_166 s39 aEok0 rfl rfl (Nat.le_of_ble_eq_true rfl) (c_open hR hc hq hr (by omega)) (fun ans' h' hq9 => ?_)
    obtain ⟨rfl, I2, rfl, hop, hk2⟩ := hq9
    refine ⟨rfl, ?_⟩
    have hr2 := rRep_op hk2 hr
    have hc2 := cRep_op hk2 hc
    have hz2 := clRep_same (fun a j g => hk2 a j (by omega)) hz
    refine aX_aload_n dX10_harsh_23 rfl ?_
    refine aX_get dX10_harsh_24 lfX10_55 s8 (f8_3 hR) ?_
    refine aX_iload_n dX10_harsh_27 rfl ?_
    refine cVp (As := [.int (nI (k))]) (st := []) (v := .int (jHarsh z.1 z.2.1 q.1 rd)) dX10_harsh_28 kX10_harsh_183 s39 aEok0 rfl rfl (Nat.le_of_ble_eq_true rfl) (c_rharsh hR hc2 hq hr2 hop) ?_
    exact rI dX10_harsh_31 rfl (⟨by rw [show oHarsh z (nI k) (nI rd) = jHarsh z.1 z.2.1 q.1 rd by unfold oHarsh; rw [if_pos c1]; simp only [nI_clamp (show k < 2 ^ 31 by omega), nI_clamp (show rd < 2 ^ 31 by omega)]; rw [← hqb]], I2, L, rfl, hz2, fun a j g => hk2 a j (by omega), fun _ _ _ => rfl⟩)
  · refine aX_iconst (v := (-1)) dX10_harsh_12 (by decide) ?_
    exact rI dX10_harsh_13 rfl (⟨by rw [show oHarsh z x y = -1 by unfold oHarsh; rw [if_neg (by simp [c1])]], I, L, rfl, hz, fun _ _ _ => rfl, fun _ _ _ => rfl⟩)
theorem jMost_lt {s : jN} {r : jR} (h6 : jSix s) (hr : rOk r) : jMost s r < 2 ^ 31 := by
  have h : ∀ x, x ∈ jCnts s r → x ≤ 1000 := fun x hx => by
    unfold jCnts at hx
    obtain ⟨q, _, rfl⟩ := List.mem_map.mp hx
    have := jCo_729 (s := s) (b := q.1) h6 hr
    omega
  have gen : ∀ (l : List Nat) (a : Nat), (∀ x, x ∈ l → x ≤ 1000) → a ≤ 1000 → l.foldl max a ≤ 1000 := fun l => by
    induction l with
    | nil => intro a _ ha; exact ha
    | cons y l ih => intro a hl ha; exact ih (max a y) (fun x hx => hl x (List.mem_cons_of_mem _ hx)) (Nat.max_le.mpr ⟨ha, hl y (List.mem_cons_self ..)⟩)
  have : jMost s r ≤ 1000 := gen _ 0 h (by omega)
  omega
set_option maxHeartbeats 1000000 in
theorem c10_choose {I : Nat → Nat → Int32} {L : Nat → Nat → Int64} {R : Nat → Nat → Option Nat} (hR : aRf R) {z : jZ} (hz : clRep I z) : aM mX10_choose [.ref 8] (sh0, I, L, R) (fun ans h' => ans = some (.long (oChoose z).1) ∧ ∃ I' L', h' = (sh0, I', L', R) ∧ clRep I' (oChoose z).2 ∧ clK I I' ∧ clKL L L') := by
  obtain ⟨hc, hr, hg, hw, h10, h11, hpc, hcz, hpz, htx⟩ := id hz
  have hn := hc.2.1.1
  have hSl := jS_len z.1
  have hle := (fold_min (a := 0) (jCnts z.1 z.2.1) 64).1
  have hle2 : jLeast z.1 z.2.1 ≤ 64 := hle
  have hmo : jMost z.1 z.2.1 < 2 ^ 31 := jMost_lt hc.2.2.1 hr.1
  refine aM_of plX10_choose (Nat.le_of_ble_eq_true rfl) ?_
  refine aX_aload_n dX10_choose_0 rfl ?_
  refine aX_get dX10_choose_1 lfX10_23 s8 (f8_2 hR) ?_
  refine aX_get (v := .int (nI ((jS z.1).length))) dX10_choose_4 lfX10_135 s16 (congrArg Value.int (hc.2.2.2.1.1)) ?_
  refine nIf_eq (tgt := 20) dX10_choose_7 (by decide) (by first | omega | exact Nat.lt_of_le_of_lt (Nat.mod_le _ _) (by omega)) (fun c1 => ?_) (fun c1 => ?_)
  · refine aX_ldc2 (v := (-2)) dX10_choose_20 lkX10_189 ?_
    exact rL dX10_choose_23 rfl (by rw [show oChoose z = (-2, z) by unfold oChoose; rw [if_pos (by omega)]]; exact ⟨rfl, I, L, rfl, hz, fun _ _ _ => rfl, fun _ _ _ => rfl⟩)
  · refine aX_aload_n dX10_choose_10 rfl ?_
    refine aX_get dX10_choose_11 lfX10_55 s8 (f8_3 hR) ?_
    refine cVp (As := []) (st := []) (v := .int (nI (jLeast z.1 z.2.1))) dX10_choose_14 kX10_choose_186 s39 aEok0 rfl rfl (Nat.le_of_ble_eq_true rfl) (c_leastCount hR hc hr) ?_
    refine nIf_ne (tgt := 24) dX10_choose_17 (by decide) (by first | omega | exact Nat.lt_of_le_of_lt (Nat.mod_le _ _) (by omega)) (fun c2 => ?_) (fun c2 => ?_)
    · refine aX_aload_n dX10_choose_24 rfl ?_
      refine aX_get dX10_choose_25 lfX10_55 s8 (f8_3 hR) ?_
      refine cVp (As := []) (st := []) (v := .int (nI (jMost z.1 z.2.1))) dX10_choose_28 kX10_choose_191 s39 aEok0 rfl rfl (Nat.le_of_ble_eq_true rfl) (c_greatestCount hR hc hr) ?_
      refine aX_bipush (v := nI 64) dX10_choose_31 (by decide) ?_
      refine nLe (tgt := 40) dX10_choose_33 (by decide) (by first | omega | exact Nat.lt_of_le_of_lt (Nat.mod_le _ _) (by omega)) (by first | omega | exact Nat.lt_of_le_of_lt (Nat.mod_le _ _) (by omega)) (fun c3 => ?_) (fun c3 => ?_)
      · refine aX_aload_n dX10_choose_40 rfl ?_
        refine aX_iconst (v := nI 0) dX10_choose_41 (by decide) ?_
        refine pZ (b := false) dX10_choose_42 lfX10_196 (fun _ _ _ hq => by cases hq; exact Or.inl rfl) s8 rfl ?_
        refine aX_aload_n dX10_choose_45 rfl ?_
        refine aX_iconst (v := nI 1) dX10_choose_46 (by decide) ?_
        refine pZ (b := true) dX10_choose_47 lfX10_200 (fun _ _ _ hq => by cases hq; exact Or.inl rfl) s8 rfl ?_
        refine aX_aload_n dX10_choose_50 rfl ?_
        refine aX_get dX10_choose_51 lfX10_64 s8 (f8_4 hR) ?_
        obtain ⟨I1, hI1⟩ : ∃ y, y = (aU (aU I 8 11 (bI (false))) 8 10 (bI (true))) := ⟨_, rfl⟩
        rw [← hI1]
        have hk1 : ∀ q j, q ≠ 8 → I1 q j = I q j := fun q j g => by rw [hI1, aU_n (by omega), aU_n (by omega)]
        have hf0 : I1 8 10 = bI true := by rw [hI1, aU_s]
        have hf1 : I1 8 11 = bI false := by rw [hI1, aU_n (by omega), aU_s]
        have hc1 := cRep_of (fun q j _ _ _ => hk1 q j (by omega)) hc
        have hr1 := rRep_of (fun q j _ _ => hk1 q j (by omega)) hr
        have hw1 := wRep_of (fun j => hk1 9 j (by omega)) hw
        have ht1 := tRep_of (fun q j _ => hk1 q j (by omega)) htx
        have hcz2 := czOk_of (s := z.1) (r := z.2.1) (by omega) (by omega) (by omega)
        have hpp : ∀ k, k < (jS z.1).length → 0 < jCn z.1 z.2.1 k := fun k hk => (jCn_of hcz2 hk).2
        refine cV (As := []) (st := []) dX10_choose_54 kX10_choose_203 s41 aEok0 rfl rfl (Nat.le_of_ble_eq_true rfl) (c_make hR hc1 hr1 hw1 (by omega) hpp (jNs_ok hc.2.1 hc.2.2.1 hr.1 hg hw.1 hpp)) (fun ans' h' hq9 => ?_)
        obtain ⟨rfl, I2, L2, rfl, hch, hk2, hl2⟩ := hq9
        refine ⟨rfl, ?_⟩
        have hc2 := cRep_hK hk2 (by omega) hc1
        have hr2 := rRep_hK hk2 (by omega) hr1
        have hcg : cgRep I2 z.1 (jChs z.1 z.2.1 z.2.2.1) := fun k hk => ⟨hch k hk, by have := jChs_lt (w := z.2.2.1) hpp k hk; have := jCn_le (s := z.1) (r := z.2.1) (k := k); omega⟩
        refine aX_lstore_n (lv' := [(0, .ref 8), (1, .long (jCost z.1 z.2.1 z.2.2.1 ((jS z.1).length - 1) (jChs z.1 z.2.1 z.2.2.1 0)))]) dX10_choose_57 (by decide) rfl ?_
        refine aX_aload_n dX10_choose_58 rfl ?_
        refine aX_get dX10_choose_59 lfX10_73 s8 (f8_5 hR) ?_
        refine cV (As := []) (st := []) dX10_choose_62 kX10_choose_207 s49 aEok0 rfl rfl (Nat.le_of_ble_eq_true rfl) (c_chains hR hc2 hr2 hcg) (fun ans' h' hq9 => ?_)
        obtain ⟨rfl, I3, rfl, hd3, hg3, hk3⟩ := hq9
        refine ⟨rfl, ?_⟩
        refine aX_lload_n dX10_choose_65 rfl ?_
        exact rL dX10_choose_66 rfl (by rw [show oChoose z = (jCost z.1 z.2.1 z.2.2.1 ((jS z.1).length - 1) (jChs z.1 z.2.1 z.2.2.1 0), z.1, z.2.1, z.2.2.1, true, false, z.2.2.2.2.2) by unfold oChoose; rw [if_neg (by omega), if_neg (by omega)]]; exact ⟨rfl, I3, L2, rfl, ⟨cRep_of (fun q j g1 g2 g3 => hk3 q j (by omega) (by omega) (by omega) (by omega)) hc2, rRep_of (fun q j g1 g2 => hk3 q j (by omega) (by omega) (by omega) (by omega)) hr2, hg, wRep_of (fun j => (hk3 9 j (by omega) (by omega) (by omega) (by omega)).trans (hk2 9 j (by omega) (by omega) (by omega))) hw1, (hk3 8 10 (by omega) (by omega) (by omega) (by omega)).trans ((hk2 8 10 (by omega) (by omega) (by omega)).trans hf0), (hk3 8 11 (by omega) (by omega) (by omega) (by omega)).trans ((hk2 8 11 (by omega) (by omega) (by omega)).trans hf1), fun g => absurd g Bool.false_ne_true, fun _ => ⟨hcz2, hg3, hd3⟩, fun g => absurd g Bool.false_ne_true, tRep_of (fun q j g => (hk3 q j (by omega) (by omega) (by omega) (by omega)).trans (hk2 q j (by omega) (by omega) (by omega))) ht1⟩, fun q j g => (hk3 q j (by omega) (by omega) (by omega) (by omega)).trans ((hk2 q j (by omega) (by omega) (by omega)).trans (hk1 q j (by omega))), fun q j g => hl2 q j (by omega)⟩)
      · refine aX_ldc2 (v := (-3)) dX10_choose_36 lkX10_194 ?_
        exact rL dX10_choose_39 rfl (by rw [show oChoose z = (-3, z) by unfold oChoose; rw [if_neg (by omega), if_pos (by omega)]]; exact ⟨rfl, I, L, rfl, hz, fun _ _ _ => rfl, fun _ _ _ => rfl⟩)
    · refine aX_ldc2 (v := (-2)) dX10_choose_20 lkX10_189 ?_
      exact rL dX10_choose_23 rfl (by rw [show oChoose z = (-2, z) by unfold oChoose; rw [if_pos (by omega)]]; exact ⟨rfl, I, L, rfl, hz, fun _ _ _ => rfl, fun _ _ _ => rfl⟩)
set_option maxHeartbeats 1000000 in
theorem c10_chosen {I : Nat → Nat → Int32} {L : Nat → Nat → Int64} {R : Nat → Nat → Option Nat} (hR : aRf R) {z : jZ} (hz : clRep I z) {x : Int32} : aM mX10_chosen [.ref 8, .int x] (sh0, I, L, R) (fun ans h' => ans = some (.int (oChosen z x)) ∧ ∃ I' L', h' = (sh0, I', L', R) ∧ clRep I' z ∧ clK I I' ∧ clKL L L') := by
  obtain ⟨hc, hr, hg, hw, h10, h11, hpc, hcz, hpz, htx⟩ := id hz
  have hn := hc.2.1.1
  have hSl := jS_len z.1
  refine aM_of plX10_chosen (Nat.le_of_ble_eq_true rfl) ?_
  refine aX_aload_n dX10_chosen_0 rfl ?_
  refine aX_get dX10_chosen_1 lfX10_23 s8 (f8_2 hR) ?_
  refine aX_iload_n dX10_chosen_4 rfl ?_
  refine cVp (As := [.int (x)]) (st := []) (v := .int (bI (jIx x (jS z.1).length))) dX10_chosen_5 kX10_chosen_139 s16 aEok0 rfl rfl (Nat.le_of_ble_eq_true rfl) (c_hasSetX hR hc) ?_
  refine bNe (tgt := 13) dX10_chosen_8 (by decide) (fun c1 => ?_) (fun c1 => ?_)
  · obtain ⟨k, hk, rfl⟩ := jIx_t (by omega) c1
    refine aX_aload_n dX10_chosen_13 rfl ?_
    refine aX_get (v := .int (bI (z.2.2.2.1))) dX10_chosen_14 lfX10_200 s8 (congrArg Value.int (h10)) ?_
    refine bEq (tgt := 32) dX10_chosen_17 (by decide) (fun c2 => ?_) (fun c2 => ?_)
    · refine aX_bipush (v := (-9)) dX10_chosen_32 (by decide) ?_
      exact rI dX10_chosen_34 rfl (⟨by rw [show oChosen z (nI k) = -9 by unfold oChosen; rw [if_pos c1, if_neg (by simp [c2])]], I, L, rfl, hz, fun _ _ _ => rfl, fun _ _ _ => rfl⟩)
    · refine aX_aload_n dX10_chosen_20 rfl ?_
      refine aX_get dX10_chosen_21 lfX10_64 s8 (f8_4 hR) ?_
      refine aX_get dX10_chosen_24 lfX10_209 s41 (f41_3 hR) ?_
      refine aX_iload_n dX10_chosen_27 rfl ?_
      refine nIald (v := nI (jChs z.1 z.2.1 z.2.2.1 k)) dX10_chosen_28 s42 (by first | omega | exact Nat.lt_of_le_of_lt (Nat.mod_le _ _) (by omega)) (by decide) (((hcz c2).2.1 k hk).1) ?_
      refine aX_goto (tgt := 34) dX10_chosen_29 (by decide) ?_
      exact rI dX10_chosen_34 rfl (⟨by rw [show oChosen z (nI k) = nI (jChs z.1 z.2.1 z.2.2.1 k) by unfold oChosen; rw [if_pos c1, if_pos c2]; simp only [nI_clamp (show k < 2 ^ 31 by omega)]], I, L, rfl, hz, fun _ _ _ => rfl, fun _ _ _ => rfl⟩)
  · refine aX_iconst (v := (-1)) dX10_chosen_11 (by decide) ?_
    exact rI dX10_chosen_12 rfl (⟨by rw [show oChosen z x = -1 by unfold oChosen; rw [if_neg (by simp [c1])]], I, L, rfl, hz, fun _ _ _ => rfl, fun _ _ _ => rfl⟩)
theorem zV_lt {s : jN} (h6 : jSix s) {r : jR} (hr : rOk r) (hg : rGood r) {ch : Nat → Nat} {w : jW} (hw : wOk w) (hn : jVn s ≤ 20) (a : Nat) : (((if a < jVn s then zN s r ch w a else if a = 20 then zD s r ch w else zW s r ch w) : Int).natAbs : Int) < 2 ^ 328 := by
  by_cases g : a < jVn s
  · rw [if_pos g]; exact zN_lt h6 hr hg hw hn g
  · rw [if_neg g]
    by_cases g2 : a = 20
    · rw [if_pos g2]
      have h1 := zD_pos (s := s) (ch := ch) hr hg hw
      have h2 := zD_lt h6 hr hg (ch := ch) hw hn
      rw [show ((zD s r ch w).natAbs : Int) = zD s r ch w by omega]
      refine Int.lt_trans h2 ?_
      decide +kernel
    · rw [if_neg g2]; exact (zW_in h6 hr hg hw hn).2
theorem jVn_fold {s : jN} {S : List (Nat × Nat)} {k : Nat} : ∀ (l : List Nat) (v : Nat × (Nat → Nat → Nat)), (l.foldl (jVm s S k) v).1 ≤ v.1 + l.length
  | [], v => Nat.le_refl _
  | m :: t, v => by
    have ih := jVn_fold (s := s) (S := S) (k := k) t (jVm s S k v m)
    have h1 : (jVm s S k v m).1 ≤ v.1 + 1 := by
      unfold jVm
      split
      · show v.1 ≤ v.1 + 1; omega
      · exact Nat.le_refl _
    show (t.foldl (jVm s S k) (jVm s S k v m)).1 ≤ _
    rw [List.length_cons]; omega
theorem jVn_lt {s : jN} (hn : s.1 ≤ 16) : jVn s < 2 ^ 31 := by
  have gen : ∀ k, (jVS s (jS s) k).1 ≤ 16 * k := fun k => by
    induction k with
    | zero => exact Nat.le_refl _
    | succ k ih =>
      have h1 := jVn_fold (s := s) (S := jS s) (k := k) (jMem s ((jS s).getD k (0, 0)).1) (jVS s (jS s) k)
      have h2 := jMem_len (s := s) ((jS s).getD k (0, 0)).1
      have h3 := jSnd_le s ((jS s).getD k (0, 0)).1
      show ((jMem s ((jS s).getD k (0, 0)).1).foldl (jVm s (jS s) k) (jVS s (jS s) k)).1 ≤ _
      omega
  have h1 := gen (jS s).length
  have h2 := jS_len s
  have h3 : jVn s ≤ 16 * (jS s).length := h1
  omega
set_option maxHeartbeats 1000000 in
theorem c10_solve {I : Nat → Nat → Int32} {L : Nat → Nat → Int64} {R : Nat → Nat → Option Nat} (hR : aRf R) {z : jZ} (hz : clRep I z) : aM mX10_solve [.ref 8] (sh0, I, L, R) (fun ans h' => ans = some (.int (oSolve z).1) ∧ ∃ I' L', h' = (sh0, I', L', R) ∧ clRep I' (oSolve z).2 ∧ clK I I' ∧ clKL L L') := by
  obtain ⟨hc, hr, hg, hw, h10, h11, hpc, hcz, hpz, htx⟩ := id hz
  have hn := hc.2.1.1
  have hSl := jS_len z.1
  have hvl : jVn z.1 < 2 ^ 31 := jVn_lt hn
  refine aM_of plX10_solve (Nat.le_of_ble_eq_true rfl) ?_
  refine aX_aload_n dX10_solve_0 rfl ?_
  refine aX_get (v := .int (bI (z.2.2.2.1))) dX10_solve_1 lfX10_200 s8 (congrArg Value.int (h10)) ?_
  refine bNe (tgt := 10) dX10_solve_4 (by decide) (fun c1 => ?_) (fun c1 => ?_)
  · refine aX_aload_n dX10_solve_10 rfl ?_
    refine aX_get dX10_solve_11 lfX10_23 s8 (f8_2 hR) ?_
    refine aX_get (v := .int (nI (jVn z.1))) dX10_solve_14 lfX10_212 s16 (congrArg Value.int (hc.2.2.2.2.1)) ?_
    refine aX_bipush (v := nI 20) dX10_solve_17 (by decide) ?_
    refine nLe (tgt := 25) dX10_solve_19 (by decide) (by first | omega | exact Nat.lt_of_le_of_lt (Nat.mod_le _ _) (by omega)) (by first | omega | exact Nat.lt_of_le_of_lt (Nat.mod_le _ _) (by omega)) (fun c2 => ?_) (fun c2 => ?_)
    · refine aX_aload_n dX10_solve_25 rfl ?_
      refine aX_get dX10_solve_26 lfX10_82 s8 (f8_6 hR) ?_
      have hv20 : jVn z.1 ≤ 20 := by omega
      obtain ⟨b1, b2, b3⟩ := hcz c1
      refine cV (As := []) (st := []) dX10_solve_29 kX10_solve_215 s53 aEok0 rfl rfl (Nat.le_of_ble_eq_true rfl) (c_gather hR hc hr hw b2 hv20 (gath_bd hc.2.2.1 hr.1 hg hw.1)) (fun ans' h' hq9 => ?_)
      obtain ⟨rfl, I2, L2, rfl, hq2, hn2, hl2, hk2, hlk2⟩ := hq9
      refine ⟨rfl, ?_⟩
      refine aX_aload_n dX10_solve_32 rfl ?_
      refine aX_get dX10_solve_33 lfX10_91 s8 (f8_7 hR) ?_
      refine cV (As := []) (st := []) dX10_solve_36 kX10_solve_218 s77 aEok0 rfl rfl (Nat.le_of_ble_eq_true rfl) (c_run hR hn2 hv20 hq2 (sq1_bd hc.2.2.1 hr.1 hg hw.1 hv20) (X := zX z.1 z.2.1 (jChs z.1 z.2.1 z.2.2.1) z.2.2.1) (by rw [zX_n, sq1_D hr.1 hg hw.1]) (zX_ker hr.1 hg hw.1) (by rw [sq1_D hr.1 hg hw.1]; exact zD_pos hr.1 hg hw.1) (by rw [sq1_D hr.1 hg hw.1]; exact zD_lt hc.2.2.1 hr.1 hg hw.1 hv20) (fun a ha => by rw [sq1_Y hr.1 hg hw.1 ha hv20]; exact zV_lt hc.2.2.1 hr.1 hg hw.1 hv20 a)) (fun ans' h' hq9 => ?_)
      obtain ⟨rfl, I3, L3, rfl, hv3, hk3, hlk3⟩ := hq9
      refine ⟨rfl, ?_⟩
      refine aX_aload_n dX10_solve_39 rfl ?_
      refine aX_iconst (v := nI 1) dX10_solve_40 (by decide) ?_
      refine pZ (b := true) dX10_solve_41 lfX10_196 (fun _ _ _ hq => by cases hq; exact Or.inl rfl) s8 rfl ?_
      refine aX_aload_n dX10_solve_44 rfl ?_
      refine aX_get dX10_solve_45 lfX10_23 s8 (f8_2 hR) ?_
      refine aX_get (v := .int (nI (jVn z.1))) dX10_solve_48 lfX10_212 s16 (congrArg Value.int (show aU I3 8 11 (bI true) 16 11 = _ by rw [aU_n (by omega), hk3 16 11 (by omega) (by omega), hk2 16 11 (by omega) (by omega) (by omega) (by omega) (by omega)]; exact hc.2.2.2.2.1)) ?_
      exact rI dX10_solve_51 rfl (by
            have hkk : ∀ q j, ¬ (q = 8 ∧ j = 11) → ¬ (q = 16 ∧ j = 13) → q ≠ 27 → q ≠ 40 → ¬ (q = 53 ∧ (j = 4 ∨ j = 5)) → q ≠ 76 → ¬ (q = 77 ∧ j = 7) → (q < 115 ∨ 158 < q) → aU I3 8 11 (bI true) q j = I q j := fun q j g1 g2 g3 g4 g5 g6 g7 g8 => by rw [aU_n g1, hk3 q j g7 g8]; exact hk2 q j g2 g3 g4 g5 g6
            rw [show oSolve z = (nI (jVn z.1), z.1, z.2.1, z.2.2.1, true, true, z.2.2.2.2.2) by unfold oSolve; rw [if_pos c1, if_neg (by omega)]]
            exact ⟨rfl, _, L3, rfl, ⟨cRep_of (fun q j g1 g2 g3 => hkk q j (by omega) g3 (by omega) (by omega) (by omega) (by omega) (by omega) (by omega)) hc, rRep_of (fun q j g1 g2 => hkk q j (by omega) (by omega) (by omega) (by omega) (by omega) (by omega) (by omega) (by omega)) hr, hg, wRep_of (fun j => hkk 9 j (by omega) (by omega) (by omega) (by omega) (by omega) (by omega) (by omega) (by omega)) hw, (hkk 8 10 (by omega) (by omega) (by omega) (by omega) (by omega) (by omega) (by omega) (by omega)).trans (by rw [h10, c1]), aU_s, fun _ => rfl, fun _ => ⟨b1, fun k hk => ⟨(hkk 42 k (by omega) (by omega) (by omega) (by omega) (by omega) (by omega) (by omega) (by omega)).trans (b2 k hk).1, (b2 k hk).2⟩, fun k hk => ⟨(hkk 51 k (by omega) (by omega) (by omega) (by omega) (by omega) (by omega) (by omega) (by omega)).trans (b3 k hk).1, fun p hp => (hkk 50 _ (by omega) (by omega) (by omega) (by omega) (by omega) (by omega) (by omega) (by omega)).trans ((b3 k hk).2.1 p hp), (hkk 52 k (by omega) (by omega) (by omega) (by omega) (by omega) (by omega) (by omega) (by omega)).trans (b3 k hk).2.2⟩⟩, fun _ => ⟨hv20, by rw [aU_n (by omega), hk3 53 5 (by omega) (by omega)]; exact hl2, fun a ha => by
              have y := hv3 a ha
              rw [sq1_Y hr.1 hg hw.1 ha hv20] at y
              exact ⟨fun i hi => by rw [aU_n (by omega)]; exact y.1 i hi, by rw [aU_n (by omega)]; exact y.2⟩⟩, tRep_of (fun q j g => hkk q j (by omega) (by omega) (by omega) (by omega) (by omega) (by omega) (by omega) (by omega)) htx⟩, fun q j g => hkk q j (by omega) (by omega) (by omega) (by omega) (by omega) (by omega) (by omega) (by omega), fun q j g => (hlk3 q j (by omega)).trans (hlk2 q j (by omega))⟩)
    · refine aX_bipush (v := (-3)) dX10_solve_22 (by decide) ?_
      exact rI dX10_solve_24 rfl (by rw [show oSolve z = (-3, z) by unfold oSolve; rw [if_pos c1, if_pos (by omega)]]; exact ⟨rfl, I, L, rfl, hz, fun _ _ _ => rfl, fun _ _ _ => rfl⟩)
  · refine aX_bipush (v := (-2)) dX10_solve_7 (by decide) ?_
    exact rI dX10_solve_9 rfl (by rw [show oSolve z = (-2, z) by unfold oSolve; rw [if_neg (by simp [c1])]]; exact ⟨rfl, I, L, rfl, hz, fun _ _ _ => rfl, fun _ _ _ => rfl⟩)
set_option maxHeartbeats 1000000 in
theorem c10_variable {I : Nat → Nat → Int32} {L : Nat → Nat → Int64} {R : Nat → Nat → Option Nat} (hR : aRf R) {z : jZ} (hz : clRep I z) {x y : Int32} : aM mX10_variable [.ref 8, .int x, .int y] (sh0, I, L, R) (fun ans h' => ans = some (.int (oVariable z x y)) ∧ ∃ I' L', h' = (sh0, I', L', R) ∧ clRep I' z ∧ clK I I' ∧ clKL L L') := by
  obtain ⟨hc, hr, hg, hw, h10, h11, hpc, hcz, hpz, htx⟩ := id hz
  have hn := hc.2.1.1
  have hSl := jS_len z.1
  refine aM_of plX10_variable (Nat.le_of_ble_eq_true rfl) ?_
  refine aX_aload_n dX10_variable_0 rfl ?_
  refine aX_get dX10_variable_1 lfX10_23 s8 (f8_2 hR) ?_
  refine aX_iload_n dX10_variable_4 rfl ?_
  refine aX_iload_n dX10_variable_5 rfl ?_
  refine cVp (As := [.int (x), .int (y)]) (st := []) (v := .int (bI (jPart z.1 x y))) dX10_variable_6 kX10_variable_163 s16 aEok0 rfl rfl (Nat.le_of_ble_eq_true rfl) (c_isPart hR hc) ?_
  refine bEq (tgt := 24) dX10_variable_9 (by decide) (fun c1 => ?_) (fun c1 => ?_)
  · refine aX_iconst (v := (-1)) dX10_variable_24 (by decide) ?_
    exact rI dX10_variable_25 rfl (⟨by rw [show oVariable z x y = -1 by unfold oVariable; rw [if_neg (by simp [c1])]], I, L, rfl, hz, fun _ _ _ => rfl, fun _ _ _ => rfl⟩)
  · obtain ⟨k, m, hk, hm, rfl, rfl, hon⟩ := jPart_t2 hn c1
    refine aX_aload_n dX10_variable_12 rfl ?_
    refine aX_get dX10_variable_13 lfX10_23 s8 (f8_2 hR) ?_
    refine aX_iload_n dX10_variable_16 rfl ?_
    refine aX_iload_n dX10_variable_17 rfl ?_
    refine cVp (As := [.int (nI (k)), .int (nI (m))]) (st := []) (v := .int (nI (jV z.1 k m))) dX10_variable_18 kX10_variable_221 s16 aEok0 rfl rfl (Nat.le_of_ble_eq_true rfl) (c_varOf hR hc hk hm hon) ?_
    refine aX_goto (tgt := 25) dX10_variable_21 (by decide) ?_
    exact rI dX10_variable_25 rfl (⟨by rw [show oVariable z (nI k) (nI m) = nI (jV z.1 k m) by unfold oVariable; rw [if_pos c1]; simp only [nI_clamp (show k < 2 ^ 31 by omega), nI_clamp (show m < 2 ^ 31 by omega)]], I, L, rfl, hz, fun _ _ _ => rfl, fun _ _ _ => rfl⟩)
set_option maxHeartbeats 1000000 in
theorem c10_loose {I : Nat → Nat → Int32} {L : Nat → Nat → Int64} {R : Nat → Nat → Option Nat} (hR : aRf R) {z : jZ} (hz : clRep I z) : aM mX10_loose [.ref 8] (sh0, I, L, R) (fun ans h' => ans = some (.int (oLoose z)) ∧ ∃ I' L', h' = (sh0, I', L', R) ∧ clRep I' z ∧ clK I I' ∧ clKL L L') := by
  obtain ⟨hc, hr, hg, hw, h10, h11, hpc, hcz, hpz, htx⟩ := id hz
  have hn := hc.2.1.1
  have hSl := jS_len z.1
  refine aM_of plX10_loose (Nat.le_of_ble_eq_true rfl) ?_
  refine aX_aload_n dX10_loose_0 rfl ?_
  refine aX_get (v := .int (bI (z.2.2.2.2.1))) dX10_loose_1 lfX10_196 s8 (congrArg Value.int (h11)) ?_
  refine bEq (tgt := 17) dX10_loose_4 (by decide) (fun c1 => ?_) (fun c1 => ?_)
  · refine aX_bipush (v := (-2)) dX10_loose_17 (by decide) ?_
    exact rI dX10_loose_19 rfl (⟨by rw [show oLoose z = -2 by unfold oLoose; rw [if_neg (by simp [c1])]], I, L, rfl, hz, fun _ _ _ => rfl, fun _ _ _ => rfl⟩)
  · refine aX_aload_n dX10_loose_7 rfl ?_
    refine aX_get dX10_loose_8 lfX10_82 s8 (f8_6 hR) ?_
    refine aX_get (v := .int (nI (jLo z.1 z.2.1 (jChs z.1 z.2.1 z.2.2.1) z.2.2.1))) dX10_loose_11 lfX10_224 s53 (congrArg Value.int ((hpz c1).2.1)) ?_
    refine aX_goto (tgt := 19) dX10_loose_14 (by decide) ?_
    exact rI dX10_loose_19 rfl (⟨by rw [show oLoose z = nI (jLo z.1 z.2.1 (jChs z.1 z.2.1 z.2.2.1) z.2.2.1) by unfold oLoose; rw [if_pos c1]], I, L, rfl, hz, fun _ _ _ => rfl, fun _ _ _ => rfl⟩)
set_option maxHeartbeats 1000000 in
theorem c10_text {I : Nat → Nat → Int32} {L : Nat → Nat → Int64} {R : Nat → Nat → Option Nat} (hR : aRf R) {z : jZ} (hz : clRep I z) {x : Int32} : aM mX10_text [.ref 8, .int x] (sh0, I, L, R) (fun ans h' => ans = some (.int (oText z x)) ∧ ∃ I' L', h' = (sh0, I', L', R) ∧ clRep I' z ∧ clK I I' ∧ clKL L L') := by
  obtain ⟨hc, hr, hg, hw, h10, h11, hpc, hcz, hpz, htx⟩ := id hz
  have hn := hc.2.1.1
  have hSl := jS_len z.1
  have htl := htx.2.1
  refine aM_of plX10_text (Nat.le_of_ble_eq_true rfl) ?_
  refine aX_iload_n dX10_text_0 rfl ?_
  refine aX_if_lt (tgt := 15) dX10_text_1 (by decide) (fun c1 => ?_) (fun c1 => ?_)
  · refine aX_bipush (v := (-9)) dX10_text_15 (by decide) ?_
    refine aX_goto (tgt := 29) dX10_text_17 (by decide) ?_
    exact rI dX10_text_29 rfl (⟨by rw [show oText z x = -9 by unfold oText; rw [if_neg (by first | (rw [jIx_neg c1]; simp) | (rw [jIx_ge (Int32.not_lt.mp c2)]; simp))]], I, L, rfl, hz, fun _ _ _ => rfl, fun _ _ _ => rfl⟩)
  · refine aX_iload_n dX10_text_4 rfl ?_
    refine aX_aload_n dX10_text_5 rfl ?_
    refine aX_get dX10_text_6 lfX10_37 s8 (f8_9 hR) ?_
    refine aX_get (v := .int (nI (z.2.2.2.2.2.length))) dX10_text_9 lfX10_252 s37 (congrArg Value.int (htx.1)) ?_
    refine aX_icmp_lt (tgt := 20) dX10_text_12 (by decide) (fun c2 => ?_) (fun c2 => ?_)
    · have hix : jIx x z.2.2.2.2.2.length = true := jIx_in c1 (fun y => absurd c2 (Int32.not_lt.mpr y))
      obtain ⟨i, hi, rfl⟩ := jIx_t (by omega) hix
      obtain ⟨c, hcc⟩ : ∃ c, z.2.2.2.2.2[i]? = some c := ⟨_, List.getElem?_eq_getElem hi⟩
      refine aX_aload_n dX10_text_20 rfl ?_
      refine aX_get dX10_text_21 lfX10_37 s8 (f8_9 hR) ?_
      refine aX_get dX10_text_24 lfX10_255 s37 (f37_0 hR) ?_
      refine aX_iload_n dX10_text_27 rfl ?_
      refine nBald (v := nI (c)) dX10_text_28 s38 (by first | omega | exact Nat.lt_of_le_of_lt (Nat.mod_le _ _) (by omega)) (by decide) ((htx.2.2 i c hcc).1) ?_
      exact rI dX10_text_29 rfl (⟨by rw [show oText z (nI i) = nI c by unfold oText; rw [if_pos hix]; simp only [nI_clamp (show i < 2 ^ 31 by omega)]; rw [List.getD_eq_getElem?_getD, hcc]; rfl], I, L, rfl, hz, fun _ _ _ => rfl, fun _ _ _ => rfl⟩)
    · refine aX_bipush (v := (-9)) dX10_text_15 (by decide) ?_
      refine aX_goto (tgt := 29) dX10_text_17 (by decide) ?_
      exact rI dX10_text_29 rfl (⟨by rw [show oText z x = -9 by unfold oText; rw [if_neg (by first | (rw [jIx_neg c1]; simp) | (rw [jIx_ge (Int32.not_lt.mp c2)]; simp))]], I, L, rfl, hz, fun _ _ _ => rfl, fun _ _ _ => rfl⟩)
set_option maxHeartbeats 1000000 in
theorem c10_pure {I : Nat → Nat → Int32} {L : Nat → Nat → Int64} {R : Nat → Nat → Option Nat} (hR : aRf R) {z : jZ} (hz : clRep I z) {x y : Int32} : aM mX10_pure [.ref 8, .int x, .int y] (sh0, I, L, R) (fun ans h' => ans = some (.int (oPure z x y)) ∧ ∃ I' L', h' = (sh0, I', L', R) ∧ clRep I' z ∧ clK I I' ∧ clKL L L') := by
  obtain ⟨hc, hr, hg, hw, h10, h11, hpc, hcz, hpz, htx⟩ := id hz
  have hn := hc.2.1.1
  have hSl := jS_len z.1
  refine aM_of plX10_pure (Nat.le_of_ble_eq_true rfl) ?_
  refine aX_aload_n dX10_pure_0 rfl ?_
  refine aX_get dX10_pure_1 lfX10_23 s8 (f8_2 hR) ?_
  refine aX_iload_n dX10_pure_4 rfl ?_
  refine cVp (As := [.int (x)]) (st := []) (v := .int (bI (jIx x (jS z.1).length))) dX10_pure_5 kX10_pure_139 s16 aEok0 rfl rfl (Nat.le_of_ble_eq_true rfl) (c_hasSetX hR hc) ?_
  refine bEq (tgt := 21) dX10_pure_8 (by decide) (fun c1 => ?_) (fun c1 => ?_)
  · refine aX_iconst (v := (-1)) dX10_pure_21 (by decide) ?_
    exact rI dX10_pure_22 rfl (⟨by rw [show oPure z x y = -1 by unfold oPure; rw [if_neg (by simp [c1])]], I, L, rfl, hz, fun _ _ _ => rfl, fun _ _ _ => rfl⟩)
  · obtain ⟨k, hk, rfl⟩ := jIx_t (by omega) c1
    refine aX_iload_n dX10_pure_11 rfl ?_
    refine aX_if_lt (tgt := 21) dX10_pure_12 (by decide) (fun c2 => ?_) (fun c2 => ?_)
    · refine aX_iconst (v := (-1)) dX10_pure_21 (by decide) ?_
      exact rI dX10_pure_22 rfl (⟨by rw [show oPure z (nI k) y = -1 by unfold oPure; rw [if_neg (by simp [c2])]], I, L, rfl, hz, fun _ _ _ => rfl, fun _ _ _ => rfl⟩)
    · refine aX_iload_n dX10_pure_15 rfl ?_
      refine aX_bipush (v := nI 7) dX10_pure_16 (by decide) ?_
      refine aX_icmp_le (tgt := 23) dX10_pure_18 (by decide) (fun c3 => ?_) (fun c3 => ?_)
      · obtain ⟨v, hv, rfl⟩ := nI_of c2
        have hv7 : v ≤ 7 := (nI_leI hv (by omega)).mp c3
        refine aX_aload_n dX10_pure_23 rfl ?_
        refine aX_get (v := .int (bI (z.2.2.2.1))) dX10_pure_24 lfX10_200 s8 (congrArg Value.int (h10)) ?_
        refine bNe (tgt := 33) dX10_pure_27 (by decide) (fun c4 => ?_) (fun c4 => ?_)
        · obtain ⟨b1, b2, b3⟩ := hcz c4
          have hch := b3 k hk
          refine aX_iload_n dX10_pure_33 rfl ?_
          refine aX_bipush (v := nI 6) dX10_pure_34 (by decide) ?_
          refine nGe (tgt := 54) dX10_pure_36 (by decide) (by first | omega | exact Nat.lt_of_le_of_lt (Nat.mod_le _ _) (by omega)) (by first | omega | exact Nat.lt_of_le_of_lt (Nat.mod_le _ _) (by omega)) (fun c5 => ?_) (fun c5 => ?_)
          · refine aX_iload_n dX10_pure_54 rfl ?_
            refine aX_bipush (v := nI 6) dX10_pure_55 (by decide) ?_
            refine nNe (tgt := 72) dX10_pure_57 (by decide) (by first | omega | exact Nat.lt_of_le_of_lt (Nat.mod_le _ _) (by omega)) (by first | omega | exact Nat.lt_of_le_of_lt (Nat.mod_le _ _) (by omega)) (fun c6 => ?_) (fun c6 => ?_)
            · refine aX_aload_n dX10_pure_72 rfl ?_
              refine aX_get dX10_pure_73 lfX10_73 s8 (f8_5 hR) ?_
              refine aX_get dX10_pure_76 lfX10_265 s49 (f49_6 hR) ?_
              refine aX_iload_n dX10_pure_79 rfl ?_
              refine nIald (v := jDr z.1 z.2.1 (jChs z.1 z.2.1 z.2.2.1) k) dX10_pure_80 s52 (by first | omega | exact Nat.lt_of_le_of_lt (Nat.mod_le _ _) (by omega)) (by decide) (hch.2.2) ?_
              exact rI dX10_pure_81 rfl (⟨by rw [show oPure z (nI k) (nI v) = jDr z.1 z.2.1 (jChs z.1 z.2.1 z.2.2.1) k by unfold oPure; rw [if_pos (by rw [c1]; simp [c2, c3])]; rw [if_pos c4]; simp only [nI_clamp (show k < 2 ^ 31 by omega), nI_clamp hv]; rw [if_neg (by omega), if_neg (by omega)]], I, L, rfl, hz, fun _ _ _ => rfl, fun _ _ _ => rfl⟩)
            · refine aX_aload_n dX10_pure_60 rfl ?_
              refine aX_get dX10_pure_61 lfX10_73 s8 (f8_5 hR) ?_
              refine aX_get dX10_pure_64 lfX10_262 s49 (f49_5 hR) ?_
              refine aX_iload_n dX10_pure_67 rfl ?_
              refine nIald (v := nI (jChn z.1 k)) dX10_pure_68 s51 (by first | omega | exact Nat.lt_of_le_of_lt (Nat.mod_le _ _) (by omega)) (by decide) (hch.1) ?_
              refine aX_goto (tgt := 81) dX10_pure_69 (by decide) ?_
              exact rI dX10_pure_81 rfl (⟨by rw [show oPure z (nI k) (nI v) = nI (jChn z.1 k) by unfold oPure; rw [if_pos (by rw [c1]; simp [c2, c3])]; rw [if_pos c4]; simp only [nI_clamp (show k < 2 ^ 31 by omega), nI_clamp hv]; rw [if_neg (by omega), if_pos (by omega)]], I, L, rfl, hz, fun _ _ _ => rfl, fun _ _ _ => rfl⟩)
          · refine aX_aload_n dX10_pure_39 rfl ?_
            refine aX_get dX10_pure_40 lfX10_73 s8 (f8_5 hR) ?_
            refine aX_get dX10_pure_43 lfX10_259 s49 (f49_4 hR) ?_
            refine aX_iload_n dX10_pure_46 rfl ?_
            refine aX_bipush (v := nI 6) dX10_pure_47 (by decide) ?_
            refine nMul dX10_pure_49 ?_
            refine aX_iload_n dX10_pure_50 rfl ?_
            refine nAdd dX10_pure_51 ?_
            refine nIald (v := jSh z.1 z.2.1 (jChs z.1 z.2.1 z.2.2.1) k v) dX10_pure_52 s50 (by first | omega | exact Nat.lt_of_le_of_lt (Nat.mod_le _ _) (by omega)) (by decide) (hch.2.1 v (by omega)) ?_
            exact rI dX10_pure_53 rfl (⟨by rw [show oPure z (nI k) (nI v) = jSh z.1 z.2.1 (jChs z.1 z.2.1 z.2.2.1) k v by unfold oPure; rw [if_pos (by rw [c1]; simp [c2, c3])]; rw [if_pos c4]; simp only [nI_clamp (show k < 2 ^ 31 by omega), nI_clamp hv]; rw [if_pos (by omega)]], I, L, rfl, hz, fun _ _ _ => rfl, fun _ _ _ => rfl⟩)
        · refine aX_bipush (v := (-2)) dX10_pure_30 (by decide) ?_
          exact rI dX10_pure_32 rfl (⟨by rw [show oPure z (nI k) (nI v) = -2 by unfold oPure; rw [if_pos (by rw [c1]; simp [c2, c3])]; rw [if_neg (by simp [c4])]], I, L, rfl, hz, fun _ _ _ => rfl, fun _ _ _ => rfl⟩)
      · refine aX_iconst (v := (-1)) dX10_pure_21 (by decide) ?_
        exact rI dX10_pure_22 rfl (⟨by rw [show oPure z (nI k) y = -1 by unfold oPure; rw [if_neg (by simp [c3])]], I, L, rfl, hz, fun _ _ _ => rfl, fun _ _ _ => rfl⟩)
theorem jPi_in {s : jN} {r : jR} {ch : Nat → Nat} {l : Nat} {q : Nat × Nat} : ∀ k, q ∈ jPi s r ch l k → q.1 < k ∧ q.2 = l
  | 0, h => by cases h
  | k + 1, h => by
    have h' : q ∈ (if jPm s r ch k l then jPi s r ch l k ++ [(k, l)] else jPi s r ch l k) := h
    split at h'
    · rcases List.mem_append.mp h' with g | g
      · have := jPi_in k g; exact ⟨by omega, this.2⟩
      · rw [List.mem_singleton.mp g]; exact ⟨by show k < k + 1; omega, rfl⟩
    · have := jPi_in k h'; exact ⟨by omega, this.2⟩
theorem jPo_mem {s : jN} {r : jR} {ch : Nat → Nat} {q : Nat × Nat} : ∀ n, q ∈ jPo s r ch n → q.1 < n ∧ q.2 < n
  | 0, h => by cases h
  | n + 1, h => by
    rcases List.mem_append.mp h with g | g
    · have := jPo_mem n g; omega
    · have := jPi_in n g; omega
theorem jPo_in {s : jN} {r : jR} {ch : Nat → Nat} {q : Nat × Nat} {i n : Nat} (h : (jPo s r ch n)[i]? = some q) : q.1 < n ∧ q.2 < n := jPo_mem n (List.mem_of_getElem? h)
set_option maxHeartbeats 1000000 in
theorem c10_pump {I : Nat → Nat → Int32} {L : Nat → Nat → Int64} {R : Nat → Nat → Option Nat} (hR : aRf R) {z : jZ} (hz : clRep I z) {x y : Int32} : aM mX10_pump [.ref 8, .int x, .int y] (sh0, I, L, R) (fun ans h' => ans = some (.int (oPump z x y)) ∧ ∃ I' L', h' = (sh0, I', L', R) ∧ clRep I' z ∧ clK I I' ∧ clKL L L') := by
  obtain ⟨hc, hr, hg, hw, h10, h11, hpc, hcz, hpz, htx⟩ := id hz
  have hn := hc.2.1.1
  have hSl := jS_len z.1
  refine aM_of plX10_pump (Nat.le_of_ble_eq_true rfl) ?_
  refine aX_iload_n dX10_pump_0 rfl ?_
  refine aX_if_lt (tgt := 13) dX10_pump_1 (by decide) (fun c1 => ?_) (fun c1 => ?_)
  · refine aX_iconst (v := (-1)) dX10_pump_13 (by decide) ?_
    exact rI dX10_pump_14 rfl (⟨by rw [show oPump z x y = -1 by unfold oPump; rw [if_neg (by simp [c1])]], I, L, rfl, hz, fun _ _ _ => rfl, fun _ _ _ => rfl⟩)
  · refine aX_iload_n dX10_pump_4 rfl ?_
    refine aX_if_lt (tgt := 13) dX10_pump_5 (by decide) (fun c2 => ?_) (fun c2 => ?_)
    · refine aX_iconst (v := (-1)) dX10_pump_13 (by decide) ?_
      exact rI dX10_pump_14 rfl (⟨by rw [show oPump z x y = -1 by unfold oPump; rw [if_neg (by simp [c2])]], I, L, rfl, hz, fun _ _ _ => rfl, fun _ _ _ => rfl⟩)
    · refine aX_iload_n dX10_pump_8 rfl ?_
      refine aX_iconst (v := nI 2) dX10_pump_9 (by decide) ?_
      refine aX_icmp_le (tgt := 15) dX10_pump_10 (by decide) (fun c3 => ?_) (fun c3 => ?_)
      · obtain ⟨i, hi, rfl⟩ := nI_of c1
        obtain ⟨v, hv, rfl⟩ := nI_of c2
        have hv2 : v ≤ 2 := (nI_leI hv (by omega)).mp c3
        refine aX_aload_n dX10_pump_15 rfl ?_
        refine aX_get (v := .int (bI (z.2.2.2.1))) dX10_pump_16 lfX10_200 s8 (congrArg Value.int (h10)) ?_
        refine bNe (tgt := 25) dX10_pump_19 (by decide) (fun c4 => ?_) (fun c4 => ?_)
        · refine aX_aload_n dX10_pump_25 rfl ?_
          refine aX_get dX10_pump_26 lfX10_73 s8 (f8_5 hR) ?_
          refine aX_iload_n dX10_pump_29 rfl ?_
          obtain ⟨b1, b2, b3⟩ := hcz c4
          refine cV (As := [.int (nI (i))]) (st := []) dX10_pump_30 kX10_pump_268 s49 aEok0 rfl rfl (Nat.le_of_ble_eq_true rfl) (c_findPump hR hc b3 hi) (fun ans' h' hq9 => ?_)
          rcases hq9 with ⟨q, hpq, rfl, rfl⟩ | ⟨hpq, rfl, rfl⟩
          · refine ⟨rfl, ?_⟩
            have hql := jPo_in hpq
            obtain ⟨I2, hI2⟩ : ∃ y, y = aU (aU I 49 7 (nI q.1)) 49 8 (nI q.2) := ⟨_, rfl⟩
            rw [← hI2]
            have hk2 : ∀ a j, a ≠ 49 → I2 a j = I a j := fun a j g => by rw [hI2, aU_n (by omega), aU_n (by omega)]
            have hz2 := clRep_same (fun a j g => hk2 a j (by omega)) hz
            have hd2 : chRep I2 z.1 z.2.1 (jChs z.1 z.2.1 z.2.2.1) := fun k hk => ⟨(hk2 51 k (by omega)).trans (b3 k hk).1, fun p hp => (hk2 50 _ (by omega)).trans ((b3 k hk).2.1 p hp), (hk2 52 k (by omega)).trans (b3 k hk).2.2⟩
            refine nIf_eq (tgt := 47) dX10_pump_33 (by decide) (by first | omega | exact Nat.lt_of_le_of_lt (Nat.mod_le _ _) (by omega)) (fun c5 => ?_) (fun c5 => ?_)
            · exact absurd c5 (by decide)
            · refine aX_aload_n dX10_pump_36 rfl ?_
              refine aX_get dX10_pump_37 lfX10_73 s8 (f8_5 hR) ?_
              refine aX_iload_n dX10_pump_40 rfl ?_
              refine cVp (As := [.int (nI (v))]) (st := []) (v := .int (jPv z.1 z.2.1 (jChs z.1 z.2.1 z.2.2.1) q.1 q.2 v)) dX10_pump_41 kX10_pump_271 s49 aEok0 rfl rfl (Nat.le_of_ble_eq_true rfl) (c_ofPump hR hd2 hql.1 hql.2 (by omega) (by rw [hI2, aU_n (by omega), aU_s]) (by rw [hI2, aU_s])) ?_
              refine aX_goto (tgt := 49) dX10_pump_44 (by decide) ?_
              exact rI dX10_pump_49 rfl (⟨by rw [show oPump z (nI i) (nI v) = jPv z.1 z.2.1 (jChs z.1 z.2.1 z.2.2.1) q.1 q.2 v by unfold oPump; rw [if_pos (by simp [c1, c2, c3])]; rw [if_pos c4]; simp only [nI_clamp hi, nI_clamp hv]; rw [hpq]], I2, L, rfl, hz2, fun a j g => hk2 a j (by omega), fun _ _ _ => rfl⟩)
          · refine ⟨rfl, ?_⟩
            refine nIf_eq (tgt := 47) dX10_pump_33 (by decide) (by first | omega | exact Nat.lt_of_le_of_lt (Nat.mod_le _ _) (by omega)) (fun c6 => ?_) (fun c6 => ?_)
            · refine aX_bipush (v := (-9)) dX10_pump_47 (by decide) ?_
              exact rI dX10_pump_49 rfl (⟨by rw [show oPump z (nI i) (nI v) = -9 by unfold oPump; rw [if_pos (by simp [c1, c2, c3])]; rw [if_pos c4]; simp only [nI_clamp hi, nI_clamp hv]; rw [hpq]], I, L, rfl, hz, fun _ _ _ => rfl, fun _ _ _ => rfl⟩)
            · exact absurd c6 (by decide)
        · refine aX_bipush (v := (-2)) dX10_pump_22 (by decide) ?_
          exact rI dX10_pump_24 rfl (⟨by rw [show oPump z (nI i) (nI v) = -2 by unfold oPump; rw [if_pos (by simp [c1, c2, c3])]; rw [if_neg (by simp [c4])]], I, L, rfl, hz, fun _ _ _ => rfl, fun _ _ _ => rfl⟩)
      · refine aX_iconst (v := (-1)) dX10_pump_13 (by decide) ?_
        exact rI dX10_pump_14 rfl (⟨by rw [show oPump z x y = -1 by unfold oPump; rw [if_neg (by simp [c3])]], I, L, rfl, hz, fun _ _ _ => rfl, fun _ _ _ => rfl⟩)
