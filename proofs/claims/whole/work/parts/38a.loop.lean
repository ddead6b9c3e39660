section LAW
variable {p : Program} {l : Launch} {e : Env} {s : State} {m : MethodId} {below : List Frame} {meth : Method} {c : Code} {b L : Nat} {xs : Nat → Int32} {D : va_G} {ct : Nat → ClassId} {adK adV : Nat → Nat} {H : Heap} {locs : List Loc} {cells slots : Nat} {ls : Array Slot} {st : List Value} {j : Nat} {Q : State → Prop} {q_t q_t_tracks q_t_reader q_t_reader_tape q_t_reader_tape_bytes q_t_ruling q_t_ruling_steps q_t_draft q_t_draft_steps q_t_trains q_t_trains_going q_t_windows q_t_windows_indices : Nat} {a0 a1 a2 b9 : Nat → Nat} {qo : Nat}
set_option maxHeartbeats 4000000 in
set_option maxRecDepth 100000 in
theorem law_body (hst : l.stackTraces = false) (C : LC p s m meth c b L xs D ct adK adV) (hL : L ≤ 3584) {t : Nat} (ht : t ≤ 512) (hI : INV D ct q_t q_t_tracks q_t_reader q_t_reader_tape q_t_reader_tape_bytes q_t_ruling q_t_ruling_steps q_t_draft q_t_draft_steps q_t_trains q_t_trains_going q_t_windows q_t_windows_indices a0 a1 a2 b9 qo (AA s) H) (hS : va_S (AA s) s.heap H locs) (hl : lv_has ls 7 [(0, .ref b), (1, .ref q_t), (2, .ref (b9 0)), (3, .ref qo), (4, .int (nI (7 * t)))])
    (kont : 7 * t + 7 ≤ L → ∀ (H1 : Heap) (locs1 : List Loc) (ls1 : Array Slot), INV D ct q_t q_t_tracks q_t_reader q_t_reader_tape q_t_reader_tape_bytes q_t_ruling q_t_ruling_steps q_t_draft q_t_draft_steps q_t_trains q_t_trains_going q_t_windows q_t_windows_indices a0 a1 a2 b9 qo (AA s) H1 → va_S (AA s) s.heap H1 locs1 → lv_has ls1 7 [(0, .ref b), (1, .ref q_t), (2, .ref (b9 0)), (3, .ref qo), (4, .int (nI (7 * (t + 1))))] → W p l e room_1 s m #[Value.ref b] below meth c H1 locs1 (200 + t + 1) (12000 + 6 * t + 6) (lw_Z below #[Value.ref b] s) (F0 m 23 ls1 [])) : W p l e room_1 s m #[Value.ref b] below meth c H locs (200 + t) (12000 + 6 * t) (lw_Z below #[Value.ref b] s) (F0 m 23 ls []) := by
  obtain ⟨⟨hx, hb, hr, hml, hown, hts, hX, hbl, hlocks, hgv⟩, hE, hSE, hXE, hno⟩ := id C
  refine lv_iload hx hb dL_law_23 (lv_at hl 4 rfl) ?_
  refine lv_aload_n hx hb dL_law_25 rfl (lv_at hl 0 rfl) ?_
  refine va_slen (A := AA s) hx hb hX hbl (Nat.not_le.mpr hbl) hS dL_law_26 ?_
  refine lv_bipush (v := 7) hx hb dL_law_27 (by decide) ?_
  refine lv_isub hx hb dL_law_29 ?_
  refine lv_icmp_gt (tgt := 1738) hx hb dL_law_30 (by decide) (fun _ => ?_) (fun h9 => ?_)
  · refine lv_iconst (v := 1) hx hb dL_law_1738 (by decide) ?_
    refine va_forget (fun q hq => hS.2.2 q hq) ?_
    refine W.widen (k := 601024) (n := 7293034) (by omega) (by omega) ?_
    exact lw_ret hx hb hr hlocks dL_law_1739
  · have hj : 7 * t + 7 ≤ L := by
      have h8 := mt i_lt.mpr h9
      rw [show Int32.ofNat L - 7 = nI L - nI 7 from rfl, pk_sub_toInt (by omega) (by omega), nI_toInt (by omega)] at h8
      omega
    refine lv_aload_n hx hb dL_law_33 rfl (lv_at hl 0 rfl) ?_
    refine lv_iload hx hb dL_law_34 (lv_at hl 4 rfl) ?_
    refine va_sld (A := AA s) hx hb hX hbl (Nat.not_le.mpr hbl) hS (vp_in_nI (by omega) (by omega)) dL_law_36 ?_
    refine lv_bipush (v := 31) hx hb dL_law_37 (by decide) ?_
    refine lv_iand hx hb dL_law_39 ?_
    obtain ⟨v, hv, ev⟩ := pk_andE (xs (nI (7 * t)).toNatClampNeg) (m := 31) 5 (by decide)
    rw [ev]
    have hv : v < 32 := hv
    have kont2 : ∀ (H1 : Heap) (locs1 : List Loc) (ls1 : Array Slot), INV D ct q_t q_t_tracks q_t_reader q_t_reader_tape q_t_reader_tape_bytes q_t_ruling q_t_ruling_steps q_t_draft q_t_draft_steps q_t_trains q_t_trains_going q_t_windows q_t_windows_indices a0 a1 a2 b9 qo (AA s) H1 → va_S (AA s) s.heap H1 locs1 → lv_has ls1 7 [(0, .ref b), (1, .ref q_t), (2, .ref (b9 0)), (3, .ref qo), (4, .int (nI (7 * t)))] → W p l e room_1 s m #[Value.ref b] below meth c H1 locs1 (200 + t + 1) (12000 + 6 * t + 6) (lw_Z below #[Value.ref b] s) (F0 m 1732 ls1 []) := fun H1 locs1 ls1 hI hS hl => by
      refine lv_iinc (v := nI (7 * (t + 1))) (lv' := [(4, .int (nI (7 * (t + 1)))), (0, .ref b), (1, .ref q_t), (2, .ref (b9 0)), (3, .ref qo)]) hx hb dL_law_1732 hl (k := 4) rfl (by rw [show Int32.ofInt 7 = nI 7 by decide, nI_add]; congr 1) (by decide) rfl (fun ls hl => ?_)
      refine lv_goto (tgt := 23) hx hb dL_law_1735 (by decide) ?_
      exact kont hj H1 locs1 ls hI hS (lv_sub hl [1, 2, 3, 4, 0] rfl)
    have hrm : 200 + t + 1 ≤ room_1.cells ∧ 12000 + 6 * t + 6 ≤ room_1.slots := by
      show 200 + t + 1 ≤ 601024 ∧ 12000 + 6 * t + 6 ≤ 7293034
      omega
    obtain ⟨e0, pb, tb, kk, rl, rp, rn, rf, fp, li, ne, sh, so, w, sto, st, cn, cl, d1, d2, d3, d4, d5, d6, dst, d7, d8, tgo, k, wi, wz, v_thrown, v_readings, v_many, v_joined, v_finals, v_when, v_mean, v_left, v_ends, v_measures, v_pointTime, v_point, v_pointEnd, v_points, v_first, v_length, v_up, v_down, v_height, v_pieces, v_lowUp, v_lowDown, v_highUp, v_highDown, v_tape, v_size, v_at, v_fault, v_index, v_newLimit, v_newNear, v_newOne, v_newOf, v_newWindow, v_newStorm, v_newMany, v_newIndex, v_began, v_trainFrom, v_trainTo, v_published, x0, x1, x2, ov, hPI, hP, hD⟩ := hI
    have hc : v = 0 ∨ v = 1 ∨ v = 2 ∨ v = 3 ∨ v = 4 ∨ v = 5 ∨ v = 6 ∨ v = 7 ∨ v = 8 ∨ v = 9 ∨ v = 10 ∨ v = 11 ∨ v = 12 ∨ v = 13 ∨ v = 14 ∨ v = 15 ∨ v = 16 ∨ v = 17 ∨ v = 18 ∨ v = 19 ∨ v = 20 ∨ v = 21 ∨ v = 22 ∨ v = 23 ∨ v = 24 ∨ 25 ≤ v := by omega
    rcases hc with e9 | e9 | e9 | e9 | e9 | e9 | e9 | e9 | e9 | e9 | e9 | e9 | e9 | e9 | e9 | e9 | e9 | e9 | e9 | e9 | e9 | e9 | e9 | e9 | e9 | h25
    · subst e9
      refine lv_tableIn (off := 116) (tgt := 156) hx hb dL_law_40 (by decide) (by decide) (by decide) (by decide) ?_
      exact st_read hst C hj hL hPI hP hD hS hl hrm kont2
    · subst e9
      refine lv_tableIn (off := 196) (tgt := 236) hx hb dL_law_40 (by decide) (by decide) (by decide) (by decide) ?_
      exact st_lost hst C hj hL hPI hP hD hS hl hrm kont2
    · subst e9
      refine lv_tableIn (off := 276) (tgt := 316) hx hb dL_law_40 (by decide) (by decide) (by decide) (by decide) ?_
      exact st_at hst C hj hL hPI hP hD hS hl hrm kont2
    · subst e9
      refine lv_tableIn (off := 356) (tgt := 396) hx hb dL_law_40 (by decide) (by decide) (by decide) (by decide) ?_
      exact st_shift hst C hj hL hPI hP hD hS hl hrm kont2
    · subst e9
      refine lv_tableIn (off := 448) (tgt := 488) hx hb dL_law_40 (by decide) (by decide) (by decide) (by decide) ?_
      exact st_jump hst C hj hL hPI hP hD hS hl hrm kont2
    · subst e9
      refine lv_tableIn (off := 528) (tgt := 568) hx hb dL_law_40 (by decide) (by decide) (by decide) (by decide) ?_
      exact st_joined hst C hj hL hPI hP hD hS hl hrm kont2
    · subst e9
      refine lv_tableIn (off := 596) (tgt := 636) hx hb dL_law_40 (by decide) (by decide) (by decide) (by decide) ?_
      exact st_end hst C hj hL hPI hP hD hS hl hrm kont2
    · subst e9
      refine lv_tableIn (off := 652) (tgt := 692) hx hb dL_law_40 (by decide) (by decide) (by decide) (by decide) ?_
      exact st_measure hst C hj hL hPI hP hD hS hl hrm kont2
    · subst e9
      refine lv_tableIn (off := 770) (tgt := 810) hx hb dL_law_40 (by decide) (by decide) (by decide) (by decide) ?_
      exact st_told hst C hj hL hPI hP hD hS hl hrm kont2
    · subst e9
      refine lv_tableIn (off := 850) (tgt := 890) hx hb dL_law_40 (by decide) (by decide) (by decide) (by decide) ?_
      exact st_pieces hst C hj hL hPI hP hD hS hl hrm kont2
    · subst e9
      refine lv_tableIn (off := 906) (tgt := 946) hx hb dL_law_40 (by decide) (by decide) (by decide) (by decide) ?_
      exact st_piece hst C hj hL hPI hP hD hS hl hrm kont2
    · subst e9
      refine lv_tableIn (off := 986) (tgt := 1026) hx hb dL_law_40 (by decide) (by decide) (by decide) (by decide) ?_
      exact st_baseline hst C hj hL hPI hP hD hS hl hrm kont2
    · subst e9
      refine lv_tableIn (off := 1054) (tgt := 1094) hx hb dL_law_40 (by decide) (by decide) (by decide) (by decide) ?_
      exact st_value hst C hj hL hPI hP hD hS hl hrm kont2
    · subst e9
      refine lv_tableIn (off := 1122) (tgt := 1162) hx hb dL_law_40 (by decide) (by decide) (by decide) (by decide) ?_
      exact st_feed hst C hj hL hPI hP hD hS hl hrm kont2
    · subst e9
      refine lv_tableIn (off := 1195) (tgt := 1235) hx hb dL_law_40 (by decide) (by decide) (by decide) (by decide) ?_
      exact st_rule hst C hj hL hPI hP hD hS hl hrm kont2
    · subst e9
      refine lv_tableIn (off := 1251) (tgt := 1291) hx hb dL_law_40 (by decide) (by decide) (by decide) (by decide) ?_
      exact st_fault hst C hj hL hPI hP hD hS hl hrm kont2
    · subst e9
      refine lv_tableIn (off := 1264) (tgt := 1304) hx hb dL_law_40 (by decide) (by decide) (by decide) (by decide) ?_
      exact st_train hst C hj hL hPI hP hD hS hl hrm kont2
    · subst e9
      refine lv_tableIn (off := 1332) (tgt := 1372) hx hb dL_law_40 (by decide) (by decide) (by decide) (by decide) ?_
      exact st_range hst C hj hL hPI hP hD hS hl hrm kont2
    · subst e9
      refine lv_tableIn (off := 1400) (tgt := 1440) hx hb dL_law_40 (by decide) (by decide) (by decide) (by decide) ?_
      exact st_index hst C hj hL hPI hP hD hS hl hrm kont2
    · subst e9
      refine lv_tableIn (off := 1425) (tgt := 1465) hx hb dL_law_40 (by decide) (by decide) (by decide) (by decide) ?_
      exact st_storm hst C hj hL hPI hP hD hS hl hrm kont2
    · subst e9
      refine lv_tableIn (off := 1493) (tgt := 1533) hx hb dL_law_40 (by decide) (by decide) (by decide) (by decide) ?_
      exact st_quiet hst C hj hL hPI hP hD hS hl hrm kont2
    · subst e9
      refine lv_tableIn (off := 1518) (tgt := 1558) hx hb dL_law_40 (by decide) (by decide) (by decide) (by decide) ?_
      exact st_publish hst C hj hL hPI hP hD hS hl hrm kont2
    · subst e9
      refine lv_tableIn (off := 1531) (tgt := 1571) hx hb dL_law_40 (by decide) (by decide) (by decide) (by decide) ?_
      exact st_changed hst C hj hL hPI hP hD hS hl hrm kont2
    · subst e9
      refine lv_tableIn (off := 1599) (tgt := 1639) hx hb dL_law_40 (by decide) (by decide) (by decide) (by decide) ?_
      exact st_published hst C hj hL hPI hP hD hS hl hrm kont2
    · subst e9
      refine lv_tableIn (off := 1667) (tgt := 1707) hx hb dL_law_40 (by decide) (by decide) (by decide) (by decide) ?_
      exact st_count hst C hj hL hPI hP hD hS hl hrm kont2
    · refine lv_tableOut (tgt := 1732) hx hb dL_law_40 (Or.inr (by rw [nI_toInt (by omega)]; omega)) (by decide) ?_
      refine W.widen (k := 200 + t + 1) (n := 12000 + 6 * t + 6) (by omega) (by omega) ?_
      exact kont2 H locs ls (INV.mk hP hD hPI) hS hl
theorem law_loop (hst : l.stackTraces = false) (C : LC p s m meth c b L xs D ct adK adV) (hL : L ≤ 3584) : ∀ (n t : Nat) (H : Heap) (locs : List Loc) (ls : Array Slot), L < 7 * t + 7 * n → t ≤ 512 → INV D ct q_t q_t_tracks q_t_reader q_t_reader_tape q_t_reader_tape_bytes q_t_ruling q_t_ruling_steps q_t_draft q_t_draft_steps q_t_trains q_t_trains_going q_t_windows q_t_windows_indices a0 a1 a2 b9 qo (AA s) H → va_S (AA s) s.heap H locs → lv_has ls 7 [(0, .ref b), (1, .ref q_t), (2, .ref (b9 0)), (3, .ref qo), (4, .int (nI (7 * t)))] → W p l e room_1 s m #[Value.ref b] below meth c H locs (200 + t) (12000 + 6 * t) (lw_Z below #[Value.ref b] s) (F0 m 23 ls []) := by
  intro n
  induction n with
  | zero => intro t H locs ls hn ht hI hS hl; exact law_body hst C hL ht hI hS hl (fun hj => by omega)
  | succ n ih => intro t H locs ls hn ht hI hS hl; exact law_body hst C hL ht hI hS hl (fun hj H1 locs1 ls1 hI hS hl => ih (t + 1) H1 locs1 ls1 (by omega) (by omega) hI hS hl)
end LAW
