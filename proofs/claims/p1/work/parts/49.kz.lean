/-! the law's own table -/
theorem xk_cat {α : Type} {p : α → Bool} {l : List α} {a n : Nat} (h1 : ((l.drop a).take n).all p = true) (h2 : (l.drop (a + n)).all p = true) : (l.drop a).all p = true := by
  have e : l.drop a = (l.drop a).take n ++ l.drop (a + n) := by rw [← List.drop_drop, List.take_append_drop]
  rw [e, List.all_append, h1, h2]
  rfl
set_option maxRecDepth 100000 in
theorem xk_l0 : ((xm_law.2.2.2.2.2.2.drop 0).take 40).all (xr_chk xr_mt xm_law) = true := by decide +kernel
set_option maxRecDepth 100000 in
theorem xk_l1 : ((xm_law.2.2.2.2.2.2.drop 40).take 40).all (xr_chk xr_mt xm_law) = true := by decide +kernel
set_option maxRecDepth 100000 in
theorem xk_l2 : ((xm_law.2.2.2.2.2.2.drop 80).take 40).all (xr_chk xr_mt xm_law) = true := by decide +kernel
set_option maxRecDepth 100000 in
theorem xk_l3 : ((xm_law.2.2.2.2.2.2.drop 120).take 40).all (xr_chk xr_mt xm_law) = true := by decide +kernel
set_option maxRecDepth 100000 in
theorem xk_l4 : ((xm_law.2.2.2.2.2.2.drop 160).take 40).all (xr_chk xr_mt xm_law) = true := by decide +kernel
set_option maxRecDepth 100000 in
theorem xk_l5 : ((xm_law.2.2.2.2.2.2.drop 200).take 40).all (xr_chk xr_mt xm_law) = true := by decide +kernel
set_option maxRecDepth 100000 in
theorem xk_l6 : ((xm_law.2.2.2.2.2.2.drop 240).take 40).all (xr_chk xr_mt xm_law) = true := by decide +kernel
set_option maxRecDepth 100000 in
theorem xk_l7 : ((xm_law.2.2.2.2.2.2.drop 280).take 40).all (xr_chk xr_mt xm_law) = true := by decide +kernel
set_option maxRecDepth 100000 in
theorem xk_l8 : ((xm_law.2.2.2.2.2.2.drop 320).take 40).all (xr_chk xr_mt xm_law) = true := by decide +kernel
set_option maxRecDepth 100000 in
theorem xk_l9 : ((xm_law.2.2.2.2.2.2.drop 360).take 40).all (xr_chk xr_mt xm_law) = true := by decide +kernel
set_option maxRecDepth 100000 in
theorem xk_l10 : ((xm_law.2.2.2.2.2.2.drop 400).take 40).all (xr_chk xr_mt xm_law) = true := by decide +kernel
set_option maxRecDepth 100000 in
theorem xk_l11 : ((xm_law.2.2.2.2.2.2.drop 440).take 40).all (xr_chk xr_mt xm_law) = true := by decide +kernel
set_option maxRecDepth 100000 in
theorem xk_l12 : ((xm_law.2.2.2.2.2.2.drop 480).take 40).all (xr_chk xr_mt xm_law) = true := by decide +kernel
set_option maxRecDepth 100000 in
theorem xk_l13 : ((xm_law.2.2.2.2.2.2.drop 520).take 40).all (xr_chk xr_mt xm_law) = true := by decide +kernel
set_option maxRecDepth 100000 in
theorem xk_l14 : ((xm_law.2.2.2.2.2.2.drop 560).take 40).all (xr_chk xr_mt xm_law) = true := by decide +kernel
set_option maxRecDepth 100000 in
theorem xk_l15 : ((xm_law.2.2.2.2.2.2.drop 600).take 40).all (xr_chk xr_mt xm_law) = true := by decide +kernel
set_option maxRecDepth 100000 in
theorem xk_l16 : ((xm_law.2.2.2.2.2.2.drop 640).take 40).all (xr_chk xr_mt xm_law) = true := by decide +kernel
set_option maxRecDepth 100000 in
theorem xk_l17 : ((xm_law.2.2.2.2.2.2.drop 680).take 40).all (xr_chk xr_mt xm_law) = true := by decide +kernel
set_option maxRecDepth 100000 in
theorem xk_l18 : ((xm_law.2.2.2.2.2.2.drop 720).take 40).all (xr_chk xr_mt xm_law) = true := by decide +kernel
set_option maxRecDepth 100000 in
theorem xk_l19 : ((xm_law.2.2.2.2.2.2.drop 760).take 40).all (xr_chk xr_mt xm_law) = true := by decide +kernel
set_option maxRecDepth 100000 in
theorem xk_l20 : ((xm_law.2.2.2.2.2.2.drop 800).take 40).all (xr_chk xr_mt xm_law) = true := by decide +kernel
set_option maxRecDepth 100000 in
theorem xk_l21 : ((xm_law.2.2.2.2.2.2.drop 840).take 40).all (xr_chk xr_mt xm_law) = true := by decide +kernel
set_option maxRecDepth 100000 in
theorem xk_l22 : ((xm_law.2.2.2.2.2.2.drop 880).take 40).all (xr_chk xr_mt xm_law) = true := by decide +kernel
set_option maxRecDepth 100000 in
theorem xk_l23 : ((xm_law.2.2.2.2.2.2.drop 920).take 40).all (xr_chk xr_mt xm_law) = true := by decide +kernel
set_option maxRecDepth 100000 in
theorem xk_l24 : ((xm_law.2.2.2.2.2.2.drop 960).take 40).all (xr_chk xr_mt xm_law) = true := by decide +kernel
set_option maxRecDepth 100000 in
theorem xk_l25 : ((xm_law.2.2.2.2.2.2.drop 1000).take 40).all (xr_chk xr_mt xm_law) = true := by decide +kernel
set_option maxRecDepth 100000 in
theorem xk_l26 : ((xm_law.2.2.2.2.2.2.drop 1040).take 40).all (xr_chk xr_mt xm_law) = true := by decide +kernel
set_option maxRecDepth 100000 in
theorem xk_l27 : ((xm_law.2.2.2.2.2.2.drop 1080).take 40).all (xr_chk xr_mt xm_law) = true := by decide +kernel
set_option maxRecDepth 100000 in
theorem xk_l28 : ((xm_law.2.2.2.2.2.2.drop 1120).take 40).all (xr_chk xr_mt xm_law) = true := by decide +kernel
set_option maxRecDepth 100000 in
theorem xk_l29 : ((xm_law.2.2.2.2.2.2.drop 1160).take 40).all (xr_chk xr_mt xm_law) = true := by decide +kernel
set_option maxRecDepth 100000 in
theorem xk_l30 : ((xm_law.2.2.2.2.2.2.drop 1200).take 40).all (xr_chk xr_mt xm_law) = true := by decide +kernel
set_option maxRecDepth 100000 in
theorem xk_l31 : ((xm_law.2.2.2.2.2.2.drop 1240).take 40).all (xr_chk xr_mt xm_law) = true := by decide +kernel
set_option maxRecDepth 100000 in
theorem xk_l32 : ((xm_law.2.2.2.2.2.2.drop 1280).take 40).all (xr_chk xr_mt xm_law) = true := by decide +kernel
set_option maxRecDepth 100000 in
theorem xk_le : (xm_law.2.2.2.2.2.2.drop 1320).all (xr_chk xr_mt xm_law) = true := by decide +kernel
set_option maxRecDepth 100000 in
theorem xk_lr : (xm_law.2.2.2.2.2.2.drop 0).all (xr_chk xr_mt xm_law) = true := (xk_cat (a := 0) (n := 40) xk_l0 (xk_cat (a := 40) (n := 40) xk_l1 (xk_cat (a := 80) (n := 40) xk_l2 (xk_cat (a := 120) (n := 40) xk_l3 (xk_cat (a := 160) (n := 40) xk_l4 (xk_cat (a := 200) (n := 40) xk_l5 (xk_cat (a := 240) (n := 40) xk_l6 (xk_cat (a := 280) (n := 40) xk_l7 (xk_cat (a := 320) (n := 40) xk_l8 (xk_cat (a := 360) (n := 40) xk_l9 (xk_cat (a := 400) (n := 40) xk_l10 (xk_cat (a := 440) (n := 40) xk_l11 (xk_cat (a := 480) (n := 40) xk_l12 (xk_cat (a := 520) (n := 40) xk_l13 (xk_cat (a := 560) (n := 40) xk_l14 (xk_cat (a := 600) (n := 40) xk_l15 (xk_cat (a := 640) (n := 40) xk_l16 (xk_cat (a := 680) (n := 40) xk_l17 (xk_cat (a := 720) (n := 40) xk_l18 (xk_cat (a := 760) (n := 40) xk_l19 (xk_cat (a := 800) (n := 40) xk_l20 (xk_cat (a := 840) (n := 40) xk_l21 (xk_cat (a := 880) (n := 40) xk_l22 (xk_cat (a := 920) (n := 40) xk_l23 (xk_cat (a := 960) (n := 40) xk_l24 (xk_cat (a := 1000) (n := 40) xk_l25 (xk_cat (a := 1040) (n := 40) xk_l26 (xk_cat (a := 1080) (n := 40) xk_l27 (xk_cat (a := 1120) (n := 40) xk_l28 (xk_cat (a := 1160) (n := 40) xk_l29 (xk_cat (a := 1200) (n := 40) xk_l30 (xk_cat (a := 1240) (n := 40) xk_l31 (xk_cat (a := 1280) (n := 40) xk_l32 xk_le)))))))))))))))))))))))))))))))))
set_option maxRecDepth 100000 in
theorem xk_l : (plainName xm_law.1.cls && (decide (xm_law.2.2.1 ≤ 100) && (decide (xr_pc xm_law.2.2.2.2.2.2 = 0) && xr_hcs xm_law))) = true := by decide +kernel
theorem xk_law : xr_Mok xr_mt xm_law = true := by
  have h := xk_l
  simp only [Bool.and_eq_true] at h
  unfold xr_Mok
  rw [h.1, h.2.1, h.2.2.1, h.2.2.2, Bool.true_and, Bool.true_and, Bool.true_and, Bool.true_and]
  exact xk_lr
