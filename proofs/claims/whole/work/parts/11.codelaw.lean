abbrev mi_L_law : qMI := (x, code, maxLocals, ret, 1, 13, 0)
theorem qrelA_td {mi : qMI} {cl : List (Nat × qE)} (n : Nat) (h1 : qrelA mi (cl.take n) = true) (h2 : qrelA mi (cl.drop n) = true) : qrelA mi cl = true := by
  rw [← List.take_append_drop n cl]
  unfold qrelA at h1 h2 ⊢
  rw [List.all_append, h1, h2]; rfl
theorem okl_0 : qrelA mi_L_law ((cl_L_law.drop 0).take 24) = true := by decide +kernel
theorem okl_24 : qrelA mi_L_law ((cl_L_law.drop 24).take 24) = true := by decide +kernel
theorem okl_48 : qrelA mi_L_law ((cl_L_law.drop 48).take 24) = true := by decide +kernel
theorem okl_72 : qrelA mi_L_law ((cl_L_law.drop 72).take 24) = true := by decide +kernel
theorem okl_96 : qrelA mi_L_law ((cl_L_law.drop 96).take 24) = true := by decide +kernel
theorem okl_120 : qrelA mi_L_law ((cl_L_law.drop 120).take 24) = true := by decide +kernel
theorem okl_144 : qrelA mi_L_law ((cl_L_law.drop 144).take 24) = true := by decide +kernel
theorem okl_168 : qrelA mi_L_law ((cl_L_law.drop 168).take 24) = true := by decide +kernel
theorem okl_192 : qrelA mi_L_law ((cl_L_law.drop 192).take 24) = true := by decide +kernel
theorem okl_216 : qrelA mi_L_law ((cl_L_law.drop 216).take 24) = true := by decide +kernel
theorem okl_240 : qrelA mi_L_law ((cl_L_law.drop 240).take 24) = true := by decide +kernel
theorem okl_264 : qrelA mi_L_law ((cl_L_law.drop 264).take 24) = true := by decide +kernel
theorem okl_288 : qrelA mi_L_law ((cl_L_law.drop 288).take 24) = true := by decide +kernel
theorem okl_312 : qrelA mi_L_law ((cl_L_law.drop 312).take 24) = true := by decide +kernel
theorem okl_336 : qrelA mi_L_law ((cl_L_law.drop 336).take 24) = true := by decide +kernel
theorem okl_360 : qrelA mi_L_law ((cl_L_law.drop 360).take 24) = true := by decide +kernel
theorem okl_384 : qrelA mi_L_law ((cl_L_law.drop 384).take 24) = true := by decide +kernel
theorem okl_408 : qrelA mi_L_law ((cl_L_law.drop 408).take 24) = true := by decide +kernel
theorem okl_432 : qrelA mi_L_law ((cl_L_law.drop 432).take 24) = true := by decide +kernel
theorem okl_456 : qrelA mi_L_law ((cl_L_law.drop 456).take 24) = true := by decide +kernel
theorem okl_480 : qrelA mi_L_law ((cl_L_law.drop 480).take 24) = true := by decide +kernel
theorem okl_504 : qrelA mi_L_law ((cl_L_law.drop 504).take 24) = true := by decide +kernel
theorem okl_528 : qrelA mi_L_law ((cl_L_law.drop 528).take 24) = true := by decide +kernel
theorem okl_552 : qrelA mi_L_law ((cl_L_law.drop 552).take 24) = true := by decide +kernel
theorem okl_576 : qrelA mi_L_law ((cl_L_law.drop 576).take 24) = true := by decide +kernel
theorem okl_600 : qrelA mi_L_law ((cl_L_law.drop 600).take 24) = true := by decide +kernel
theorem okl_624 : qrelA mi_L_law ((cl_L_law.drop 624).take 24) = true := by decide +kernel
theorem okl_648 : qrelA mi_L_law ((cl_L_law.drop 648).take 24) = true := by decide +kernel
theorem okl_672 : qrelA mi_L_law ((cl_L_law.drop 672).take 24) = true := by decide +kernel
theorem okl_696 : qrelA mi_L_law ((cl_L_law.drop 696).take 24) = true := by decide +kernel
theorem okl_720 : qrelA mi_L_law ((cl_L_law.drop 720).take 24) = true := by decide +kernel
theorem okl_end : qrelA mi_L_law (cl_L_law.drop 744) = true := by decide +kernel
theorem okd_720 : qrelA mi_L_law (cl_L_law.drop 720) = true := qrelA_td 24 okl_720 (by rw [List.drop_drop]; exact okl_end)
theorem okd_696 : qrelA mi_L_law (cl_L_law.drop 696) = true := qrelA_td 24 okl_696 (by rw [List.drop_drop]; exact okd_720)
theorem okd_672 : qrelA mi_L_law (cl_L_law.drop 672) = true := qrelA_td 24 okl_672 (by rw [List.drop_drop]; exact okd_696)
theorem okd_648 : qrelA mi_L_law (cl_L_law.drop 648) = true := qrelA_td 24 okl_648 (by rw [List.drop_drop]; exact okd_672)
theorem okd_624 : qrelA mi_L_law (cl_L_law.drop 624) = true := qrelA_td 24 okl_624 (by rw [List.drop_drop]; exact okd_648)
theorem okd_600 : qrelA mi_L_law (cl_L_law.drop 600) = true := qrelA_td 24 okl_600 (by rw [List.drop_drop]; exact okd_624)
theorem okd_576 : qrelA mi_L_law (cl_L_law.drop 576) = true := qrelA_td 24 okl_576 (by rw [List.drop_drop]; exact okd_600)
theorem okd_552 : qrelA mi_L_law (cl_L_law.drop 552) = true := qrelA_td 24 okl_552 (by rw [List.drop_drop]; exact okd_576)
theorem okd_528 : qrelA mi_L_law (cl_L_law.drop 528) = true := qrelA_td 24 okl_528 (by rw [List.drop_drop]; exact okd_552)
theorem okd_504 : qrelA mi_L_law (cl_L_law.drop 504) = true := qrelA_td 24 okl_504 (by rw [List.drop_drop]; exact okd_528)
theorem okd_480 : qrelA mi_L_law (cl_L_law.drop 480) = true := qrelA_td 24 okl_480 (by rw [List.drop_drop]; exact okd_504)
theorem okd_456 : qrelA mi_L_law (cl_L_law.drop 456) = true := qrelA_td 24 okl_456 (by rw [List.drop_drop]; exact okd_480)
theorem okd_432 : qrelA mi_L_law (cl_L_law.drop 432) = true := qrelA_td 24 okl_432 (by rw [List.drop_drop]; exact okd_456)
theorem okd_408 : qrelA mi_L_law (cl_L_law.drop 408) = true := qrelA_td 24 okl_408 (by rw [List.drop_drop]; exact okd_432)
theorem okd_384 : qrelA mi_L_law (cl_L_law.drop 384) = true := qrelA_td 24 okl_384 (by rw [List.drop_drop]; exact okd_408)
theorem okd_360 : qrelA mi_L_law (cl_L_law.drop 360) = true := qrelA_td 24 okl_360 (by rw [List.drop_drop]; exact okd_384)
theorem okd_336 : qrelA mi_L_law (cl_L_law.drop 336) = true := qrelA_td 24 okl_336 (by rw [List.drop_drop]; exact okd_360)
theorem okd_312 : qrelA mi_L_law (cl_L_law.drop 312) = true := qrelA_td 24 okl_312 (by rw [List.drop_drop]; exact okd_336)
theorem okd_288 : qrelA mi_L_law (cl_L_law.drop 288) = true := qrelA_td 24 okl_288 (by rw [List.drop_drop]; exact okd_312)
theorem okd_264 : qrelA mi_L_law (cl_L_law.drop 264) = true := qrelA_td 24 okl_264 (by rw [List.drop_drop]; exact okd_288)
theorem okd_240 : qrelA mi_L_law (cl_L_law.drop 240) = true := qrelA_td 24 okl_240 (by rw [List.drop_drop]; exact okd_264)
theorem okd_216 : qrelA mi_L_law (cl_L_law.drop 216) = true := qrelA_td 24 okl_216 (by rw [List.drop_drop]; exact okd_240)
theorem okd_192 : qrelA mi_L_law (cl_L_law.drop 192) = true := qrelA_td 24 okl_192 (by rw [List.drop_drop]; exact okd_216)
theorem okd_168 : qrelA mi_L_law (cl_L_law.drop 168) = true := qrelA_td 24 okl_168 (by rw [List.drop_drop]; exact okd_192)
theorem okd_144 : qrelA mi_L_law (cl_L_law.drop 144) = true := qrelA_td 24 okl_144 (by rw [List.drop_drop]; exact okd_168)
theorem okd_120 : qrelA mi_L_law (cl_L_law.drop 120) = true := qrelA_td 24 okl_120 (by rw [List.drop_drop]; exact okd_144)
theorem okd_96 : qrelA mi_L_law (cl_L_law.drop 96) = true := qrelA_td 24 okl_96 (by rw [List.drop_drop]; exact okd_120)
theorem okd_72 : qrelA mi_L_law (cl_L_law.drop 72) = true := qrelA_td 24 okl_72 (by rw [List.drop_drop]; exact okd_96)
theorem okd_48 : qrelA mi_L_law (cl_L_law.drop 48) = true := qrelA_td 24 okl_48 (by rw [List.drop_drop]; exact okd_72)
theorem okd_24 : qrelA mi_L_law (cl_L_law.drop 24) = true := qrelA_td 24 okl_24 (by rw [List.drop_drop]; exact okd_48)
theorem okd_0 : qrelA mi_L_law (cl_L_law.drop 0) = true := qrelA_td 24 okl_0 (by rw [List.drop_drop]; exact okd_24)
theorem ok_L_law : cdok mi_L_law cd_L_law := cdok_of okd_0
