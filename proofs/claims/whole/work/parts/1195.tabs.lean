theorem bk5_s {α1 α2 α3 α4 α5 δ : Type} (a1 : α1) (a2 : α2) (a3 : α3) (a4 : α4) (a5 : α5) (k : α1 → α2 → α3 → α4 → α5 → Option δ) : bk5 (some (a1, a2, a3, a4, a5)) k = k a1 a2 a3 a4 a5 := rfl
theorem bk6_s {α1 α2 α3 α4 α5 α6 δ : Type} (a1 : α1) (a2 : α2) (a3 : α3) (a4 : α4) (a5 : α5) (a6 : α6) (k : α1 → α2 → α3 → α4 → α5 → α6 → Option δ) : bk6 (some (a1, a2, a3, a4, a5, a6)) k = k a1 a2 a3 a4 a5 a6 := rfl
theorem bk7_s {α1 α2 α3 α4 α5 α6 α7 δ : Type} (a1 : α1) (a2 : α2) (a3 : α3) (a4 : α4) (a5 : α5) (a6 : α6) (a7 : α7) (k : α1 → α2 → α3 → α4 → α5 → α6 → α7 → Option δ) : bk7 (some (a1, a2, a3, a4, a5, a6, a7)) k = k a1 a2 a3 a4 a5 a6 a7 := rfl
theorem bk8_s {α1 α2 α3 α4 α5 α6 α7 α8 δ : Type} (a1 : α1) (a2 : α2) (a3 : α3) (a4 : α4) (a5 : α5) (a6 : α6) (a7 : α7) (a8 : α8) (k : α1 → α2 → α3 → α4 → α5 → α6 → α7 → α8 → Option δ) : bk8 (some (a1, a2, a3, a4, a5, a6, a7, a8)) k = k a1 a2 a3 a4 a5 a6 a7 a8 := rfl
theorem bk9_s {α1 α2 α3 α4 α5 α6 α7 α8 α9 δ : Type} (a1 : α1) (a2 : α2) (a3 : α3) (a4 : α4) (a5 : α5) (a6 : α6) (a7 : α7) (a8 : α8) (a9 : α9) (k : α1 → α2 → α3 → α4 → α5 → α6 → α7 → α8 → α9 → Option δ) : bk9 (some (a1, a2, a3, a4, a5, a6, a7, a8, a9)) k = k a1 a2 a3 a4 a5 a6 a7 a8 a9 := rfl
theorem bk10_s {α1 α2 α3 α4 α5 α6 α7 α8 α9 α10 δ : Type} (a1 : α1) (a2 : α2) (a3 : α3) (a4 : α4) (a5 : α5) (a6 : α6) (a7 : α7) (a8 : α8) (a9 : α9) (a10 : α10) (k : α1 → α2 → α3 → α4 → α5 → α6 → α7 → α8 → α9 → α10 → Option δ) : bk10 (some (a1, a2, a3, a4, a5, a6, a7, a8, a9, a10)) k = k a1 a2 a3 a4 a5 a6 a7 a8 a9 a10 := rfl
theorem bk11_s {α1 α2 α3 α4 α5 α6 α7 α8 α9 α10 α11 δ : Type} (a1 : α1) (a2 : α2) (a3 : α3) (a4 : α4) (a5 : α5) (a6 : α6) (a7 : α7) (a8 : α8) (a9 : α9) (a10 : α10) (a11 : α11) (k : α1 → α2 → α3 → α4 → α5 → α6 → α7 → α8 → α9 → α10 → α11 → Option δ) : bk11 (some (a1, a2, a3, a4, a5, a6, a7, a8, a9, a10, a11)) k = k a1 a2 a3 a4 a5 a6 a7 a8 a9 a10 a11 := rfl
theorem bk12_s {α1 α2 α3 α4 α5 α6 α7 α8 α9 α10 α11 α12 δ : Type} (a1 : α1) (a2 : α2) (a3 : α3) (a4 : α4) (a5 : α5) (a6 : α6) (a7 : α7) (a8 : α8) (a9 : α9) (a10 : α10) (a11 : α11) (a12 : α12) (k : α1 → α2 → α3 → α4 → α5 → α6 → α7 → α8 → α9 → α10 → α11 → α12 → Option δ) : bk12 (some (a1, a2, a3, a4, a5, a6, a7, a8, a9, a10, a11, a12)) k = k a1 a2 a3 a4 a5 a6 a7 a8 a9 a10 a11 a12 := rfl
theorem bk13_s {α1 α2 α3 α4 α5 α6 α7 α8 α9 α10 α11 α12 α13 δ : Type} (a1 : α1) (a2 : α2) (a3 : α3) (a4 : α4) (a5 : α5) (a6 : α6) (a7 : α7) (a8 : α8) (a9 : α9) (a10 : α10) (a11 : α11) (a12 : α12) (a13 : α13) (k : α1 → α2 → α3 → α4 → α5 → α6 → α7 → α8 → α9 → α10 → α11 → α12 → α13 → Option δ) : bk13 (some (a1, a2, a3, a4, a5, a6, a7, a8, a9, a10, a11, a12, a13)) k = k a1 a2 a3 a4 a5 a6 a7 a8 a9 a10 a11 a12 a13 := rfl
theorem bk14_s {α1 α2 α3 α4 α5 α6 α7 α8 α9 α10 α11 α12 α13 α14 δ : Type} (a1 : α1) (a2 : α2) (a3 : α3) (a4 : α4) (a5 : α5) (a6 : α6) (a7 : α7) (a8 : α8) (a9 : α9) (a10 : α10) (a11 : α11) (a12 : α12) (a13 : α13) (a14 : α14) (k : α1 → α2 → α3 → α4 → α5 → α6 → α7 → α8 → α9 → α10 → α11 → α12 → α13 → α14 → Option δ) : bk14 (some (a1, a2, a3, a4, a5, a6, a7, a8, a9, a10, a11, a12, a13, a14)) k = k a1 a2 a3 a4 a5 a6 a7 a8 a9 a10 a11 a12 a13 a14 := rfl
theorem bk15_s {α1 α2 α3 α4 α5 α6 α7 α8 α9 α10 α11 α12 α13 α14 α15 δ : Type} (a1 : α1) (a2 : α2) (a3 : α3) (a4 : α4) (a5 : α5) (a6 : α6) (a7 : α7) (a8 : α8) (a9 : α9) (a10 : α10) (a11 : α11) (a12 : α12) (a13 : α13) (a14 : α14) (a15 : α15) (k : α1 → α2 → α3 → α4 → α5 → α6 → α7 → α8 → α9 → α10 → α11 → α12 → α13 → α14 → α15 → Option δ) : bk15 (some (a1, a2, a3, a4, a5, a6, a7, a8, a9, a10, a11, a12, a13, a14, a15)) k = k a1 a2 a3 a4 a5 a6 a7 a8 a9 a10 a11 a12 a13 a14 a15 := rfl
theorem bk16_s {α1 α2 α3 α4 α5 α6 α7 α8 α9 α10 α11 α12 α13 α14 α15 α16 δ : Type} (a1 : α1) (a2 : α2) (a3 : α3) (a4 : α4) (a5 : α5) (a6 : α6) (a7 : α7) (a8 : α8) (a9 : α9) (a10 : α10) (a11 : α11) (a12 : α12) (a13 : α13) (a14 : α14) (a15 : α15) (a16 : α16) (k : α1 → α2 → α3 → α4 → α5 → α6 → α7 → α8 → α9 → α10 → α11 → α12 → α13 → α14 → α15 → α16 → Option δ) : bk16 (some (a1, a2, a3, a4, a5, a6, a7, a8, a9, a10, a11, a12, a13, a14, a15, a16)) k = k a1 a2 a3 a4 a5 a6 a7 a8 a9 a10 a11 a12 a13 a14 a15 a16 := rfl
theorem bk17_s {α1 α2 α3 α4 α5 α6 α7 α8 α9 α10 α11 α12 α13 α14 α15 α16 α17 δ : Type} (a1 : α1) (a2 : α2) (a3 : α3) (a4 : α4) (a5 : α5) (a6 : α6) (a7 : α7) (a8 : α8) (a9 : α9) (a10 : α10) (a11 : α11) (a12 : α12) (a13 : α13) (a14 : α14) (a15 : α15) (a16 : α16) (a17 : α17) (k : α1 → α2 → α3 → α4 → α5 → α6 → α7 → α8 → α9 → α10 → α11 → α12 → α13 → α14 → α15 → α16 → α17 → Option δ) : bk17 (some (a1, a2, a3, a4, a5, a6, a7, a8, a9, a10, a11, a12, a13, a14, a15, a16, a17)) k = k a1 a2 a3 a4 a5 a6 a7 a8 a9 a10 a11 a12 a13 a14 a15 a16 a17 := rfl
theorem bk18_s {α1 α2 α3 α4 α5 α6 α7 α8 α9 α10 α11 α12 α13 α14 α15 α16 α17 α18 δ : Type} (a1 : α1) (a2 : α2) (a3 : α3) (a4 : α4) (a5 : α5) (a6 : α6) (a7 : α7) (a8 : α8) (a9 : α9) (a10 : α10) (a11 : α11) (a12 : α12) (a13 : α13) (a14 : α14) (a15 : α15) (a16 : α16) (a17 : α17) (a18 : α18) (k : α1 → α2 → α3 → α4 → α5 → α6 → α7 → α8 → α9 → α10 → α11 → α12 → α13 → α14 → α15 → α16 → α17 → α18 → Option δ) : bk18 (some (a1, a2, a3, a4, a5, a6, a7, a8, a9, a10, a11, a12, a13, a14, a15, a16, a17, a18)) k = k a1 a2 a3 a4 a5 a6 a7 a8 a9 a10 a11 a12 a13 a14 a15 a16 a17 a18 := rfl
theorem bk19_s {α1 α2 α3 α4 α5 α6 α7 α8 α9 α10 α11 α12 α13 α14 α15 α16 α17 α18 α19 δ : Type} (a1 : α1) (a2 : α2) (a3 : α3) (a4 : α4) (a5 : α5) (a6 : α6) (a7 : α7) (a8 : α8) (a9 : α9) (a10 : α10) (a11 : α11) (a12 : α12) (a13 : α13) (a14 : α14) (a15 : α15) (a16 : α16) (a17 : α17) (a18 : α18) (a19 : α19) (k : α1 → α2 → α3 → α4 → α5 → α6 → α7 → α8 → α9 → α10 → α11 → α12 → α13 → α14 → α15 → α16 → α17 → α18 → α19 → Option δ) : bk19 (some (a1, a2, a3, a4, a5, a6, a7, a8, a9, a10, a11, a12, a13, a14, a15, a16, a17, a18, a19)) k = k a1 a2 a3 a4 a5 a6 a7 a8 a9 a10 a11 a12 a13 a14 a15 a16 a17 a18 a19 := rfl
theorem bk20_s {α1 α2 α3 α4 α5 α6 α7 α8 α9 α10 α11 α12 α13 α14 α15 α16 α17 α18 α19 α20 δ : Type} (a1 : α1) (a2 : α2) (a3 : α3) (a4 : α4) (a5 : α5) (a6 : α6) (a7 : α7) (a8 : α8) (a9 : α9) (a10 : α10) (a11 : α11) (a12 : α12) (a13 : α13) (a14 : α14) (a15 : α15) (a16 : α16) (a17 : α17) (a18 : α18) (a19 : α19) (a20 : α20) (k : α1 → α2 → α3 → α4 → α5 → α6 → α7 → α8 → α9 → α10 → α11 → α12 → α13 → α14 → α15 → α16 → α17 → α18 → α19 → α20 → Option δ) : bk20 (some (a1, a2, a3, a4, a5, a6, a7, a8, a9, a10, a11, a12, a13, a14, a15, a16, a17, a18, a19, a20)) k = k a1 a2 a3 a4 a5 a6 a7 a8 a9 a10 a11 a12 a13 a14 a15 a16 a17 a18 a19 a20 := rfl
theorem bk21_s {α1 α2 α3 α4 α5 α6 α7 α8 α9 α10 α11 α12 α13 α14 α15 α16 α17 α18 α19 α20 α21 δ : Type} (a1 : α1) (a2 : α2) (a3 : α3) (a4 : α4) (a5 : α5) (a6 : α6) (a7 : α7) (a8 : α8) (a9 : α9) (a10 : α10) (a11 : α11) (a12 : α12) (a13 : α13) (a14 : α14) (a15 : α15) (a16 : α16) (a17 : α17) (a18 : α18) (a19 : α19) (a20 : α20) (a21 : α21) (k : α1 → α2 → α3 → α4 → α5 → α6 → α7 → α8 → α9 → α10 → α11 → α12 → α13 → α14 → α15 → α16 → α17 → α18 → α19 → α20 → α21 → Option δ) : bk21 (some (a1, a2, a3, a4, a5, a6, a7, a8, a9, a10, a11, a12, a13, a14, a15, a16, a17, a18, a19, a20, a21)) k = k a1 a2 a3 a4 a5 a6 a7 a8 a9 a10 a11 a12 a13 a14 a15 a16 a17 a18 a19 a20 a21 := rfl
theorem bk22_s {α1 α2 α3 α4 α5 α6 α7 α8 α9 α10 α11 α12 α13 α14 α15 α16 α17 α18 α19 α20 α21 α22 δ : Type} (a1 : α1) (a2 : α2) (a3 : α3) (a4 : α4) (a5 : α5) (a6 : α6) (a7 : α7) (a8 : α8) (a9 : α9) (a10 : α10) (a11 : α11) (a12 : α12) (a13 : α13) (a14 : α14) (a15 : α15) (a16 : α16) (a17 : α17) (a18 : α18) (a19 : α19) (a20 : α20) (a21 : α21) (a22 : α22) (k : α1 → α2 → α3 → α4 → α5 → α6 → α7 → α8 → α9 → α10 → α11 → α12 → α13 → α14 → α15 → α16 → α17 → α18 → α19 → α20 → α21 → α22 → Option δ) : bk22 (some (a1, a2, a3, a4, a5, a6, a7, a8, a9, a10, a11, a12, a13, a14, a15, a16, a17, a18, a19, a20, a21, a22)) k = k a1 a2 a3 a4 a5 a6 a7 a8 a9 a10 a11 a12 a13 a14 a15 a16 a17 a18 a19 a20 a21 a22 := rfl
theorem bk23_s {α1 α2 α3 α4 α5 α6 α7 α8 α9 α10 α11 α12 α13 α14 α15 α16 α17 α18 α19 α20 α21 α22 α23 δ : Type} (a1 : α1) (a2 : α2) (a3 : α3) (a4 : α4) (a5 : α5) (a6 : α6) (a7 : α7) (a8 : α8) (a9 : α9) (a10 : α10) (a11 : α11) (a12 : α12) (a13 : α13) (a14 : α14) (a15 : α15) (a16 : α16) (a17 : α17) (a18 : α18) (a19 : α19) (a20 : α20) (a21 : α21) (a22 : α22) (a23 : α23) (k : α1 → α2 → α3 → α4 → α5 → α6 → α7 → α8 → α9 → α10 → α11 → α12 → α13 → α14 → α15 → α16 → α17 → α18 → α19 → α20 → α21 → α22 → α23 → Option δ) : bk23 (some (a1, a2, a3, a4, a5, a6, a7, a8, a9, a10, a11, a12, a13, a14, a15, a16, a17, a18, a19, a20, a21, a22, a23)) k = k a1 a2 a3 a4 a5 a6 a7 a8 a9 a10 a11 a12 a13 a14 a15 a16 a17 a18 a19 a20 a21 a22 a23 := rfl
theorem bk24_s {α1 α2 α3 α4 α5 α6 α7 α8 α9 α10 α11 α12 α13 α14 α15 α16 α17 α18 α19 α20 α21 α22 α23 α24 δ : Type} (a1 : α1) (a2 : α2) (a3 : α3) (a4 : α4) (a5 : α5) (a6 : α6) (a7 : α7) (a8 : α8) (a9 : α9) (a10 : α10) (a11 : α11) (a12 : α12) (a13 : α13) (a14 : α14) (a15 : α15) (a16 : α16) (a17 : α17) (a18 : α18) (a19 : α19) (a20 : α20) (a21 : α21) (a22 : α22) (a23 : α23) (a24 : α24) (k : α1 → α2 → α3 → α4 → α5 → α6 → α7 → α8 → α9 → α10 → α11 → α12 → α13 → α14 → α15 → α16 → α17 → α18 → α19 → α20 → α21 → α22 → α23 → α24 → Option δ) : bk24 (some (a1, a2, a3, a4, a5, a6, a7, a8, a9, a10, a11, a12, a13, a14, a15, a16, a17, a18, a19, a20, a21, a22, a23, a24)) k = k a1 a2 a3 a4 a5 a6 a7 a8 a9 a10 a11 a12 a13 a14 a15 a16 a17 a18 a19 a20 a21 a22 a23 a24 := rfl
theorem bk25_s {α1 α2 α3 α4 α5 α6 α7 α8 α9 α10 α11 α12 α13 α14 α15 α16 α17 α18 α19 α20 α21 α22 α23 α24 α25 δ : Type} (a1 : α1) (a2 : α2) (a3 : α3) (a4 : α4) (a5 : α5) (a6 : α6) (a7 : α7) (a8 : α8) (a9 : α9) (a10 : α10) (a11 : α11) (a12 : α12) (a13 : α13) (a14 : α14) (a15 : α15) (a16 : α16) (a17 : α17) (a18 : α18) (a19 : α19) (a20 : α20) (a21 : α21) (a22 : α22) (a23 : α23) (a24 : α24) (a25 : α25) (k : α1 → α2 → α3 → α4 → α5 → α6 → α7 → α8 → α9 → α10 → α11 → α12 → α13 → α14 → α15 → α16 → α17 → α18 → α19 → α20 → α21 → α22 → α23 → α24 → α25 → Option δ) : bk25 (some (a1, a2, a3, a4, a5, a6, a7, a8, a9, a10, a11, a12, a13, a14, a15, a16, a17, a18, a19, a20, a21, a22, a23, a24, a25)) k = k a1 a2 a3 a4 a5 a6 a7 a8 a9 a10 a11 a12 a13 a14 a15 a16 a17 a18 a19 a20 a21 a22 a23 a24 a25 := rfl
theorem bk26_s {α1 α2 α3 α4 α5 α6 α7 α8 α9 α10 α11 α12 α13 α14 α15 α16 α17 α18 α19 α20 α21 α22 α23 α24 α25 α26 δ : Type} (a1 : α1) (a2 : α2) (a3 : α3) (a4 : α4) (a5 : α5) (a6 : α6) (a7 : α7) (a8 : α8) (a9 : α9) (a10 : α10) (a11 : α11) (a12 : α12) (a13 : α13) (a14 : α14) (a15 : α15) (a16 : α16) (a17 : α17) (a18 : α18) (a19 : α19) (a20 : α20) (a21 : α21) (a22 : α22) (a23 : α23) (a24 : α24) (a25 : α25) (a26 : α26) (k : α1 → α2 → α3 → α4 → α5 → α6 → α7 → α8 → α9 → α10 → α11 → α12 → α13 → α14 → α15 → α16 → α17 → α18 → α19 → α20 → α21 → α22 → α23 → α24 → α25 → α26 → Option δ) : bk26 (some (a1, a2, a3, a4, a5, a6, a7, a8, a9, a10, a11, a12, a13, a14, a15, a16, a17, a18, a19, a20, a21, a22, a23, a24, a25, a26)) k = k a1 a2 a3 a4 a5 a6 a7 a8 a9 a10 a11 a12 a13 a14 a15 a16 a17 a18 a19 a20 a21 a22 a23 a24 a25 a26 := rfl
theorem bk27_s {α1 α2 α3 α4 α5 α6 α7 α8 α9 α10 α11 α12 α13 α14 α15 α16 α17 α18 α19 α20 α21 α22 α23 α24 α25 α26 α27 δ : Type} (a1 : α1) (a2 : α2) (a3 : α3) (a4 : α4) (a5 : α5) (a6 : α6) (a7 : α7) (a8 : α8) (a9 : α9) (a10 : α10) (a11 : α11) (a12 : α12) (a13 : α13) (a14 : α14) (a15 : α15) (a16 : α16) (a17 : α17) (a18 : α18) (a19 : α19) (a20 : α20) (a21 : α21) (a22 : α22) (a23 : α23) (a24 : α24) (a25 : α25) (a26 : α26) (a27 : α27) (k : α1 → α2 → α3 → α4 → α5 → α6 → α7 → α8 → α9 → α10 → α11 → α12 → α13 → α14 → α15 → α16 → α17 → α18 → α19 → α20 → α21 → α22 → α23 → α24 → α25 → α26 → α27 → Option δ) : bk27 (some (a1, a2, a3, a4, a5, a6, a7, a8, a9, a10, a11, a12, a13, a14, a15, a16, a17, a18, a19, a20, a21, a22, a23, a24, a25, a26, a27)) k = k a1 a2 a3 a4 a5 a6 a7 a8 a9 a10 a11 a12 a13 a14 a15 a16 a17 a18 a19 a20 a21 a22 a23 a24 a25 a26 a27 := rfl
theorem bk28_s {α1 α2 α3 α4 α5 α6 α7 α8 α9 α10 α11 α12 α13 α14 α15 α16 α17 α18 α19 α20 α21 α22 α23 α24 α25 α26 α27 α28 δ : Type} (a1 : α1) (a2 : α2) (a3 : α3) (a4 : α4) (a5 : α5) (a6 : α6) (a7 : α7) (a8 : α8) (a9 : α9) (a10 : α10) (a11 : α11) (a12 : α12) (a13 : α13) (a14 : α14) (a15 : α15) (a16 : α16) (a17 : α17) (a18 : α18) (a19 : α19) (a20 : α20) (a21 : α21) (a22 : α22) (a23 : α23) (a24 : α24) (a25 : α25) (a26 : α26) (a27 : α27) (a28 : α28) (k : α1 → α2 → α3 → α4 → α5 → α6 → α7 → α8 → α9 → α10 → α11 → α12 → α13 → α14 → α15 → α16 → α17 → α18 → α19 → α20 → α21 → α22 → α23 → α24 → α25 → α26 → α27 → α28 → Option δ) : bk28 (some (a1, a2, a3, a4, a5, a6, a7, a8, a9, a10, a11, a12, a13, a14, a15, a16, a17, a18, a19, a20, a21, a22, a23, a24, a25, a26, a27, a28)) k = k a1 a2 a3 a4 a5 a6 a7 a8 a9 a10 a11 a12 a13 a14 a15 a16 a17 a18 a19 a20 a21 a22 a23 a24 a25 a26 a27 a28 := rfl
theorem bk29_s {α1 α2 α3 α4 α5 α6 α7 α8 α9 α10 α11 α12 α13 α14 α15 α16 α17 α18 α19 α20 α21 α22 α23 α24 α25 α26 α27 α28 α29 δ : Type} (a1 : α1) (a2 : α2) (a3 : α3) (a4 : α4) (a5 : α5) (a6 : α6) (a7 : α7) (a8 : α8) (a9 : α9) (a10 : α10) (a11 : α11) (a12 : α12) (a13 : α13) (a14 : α14) (a15 : α15) (a16 : α16) (a17 : α17) (a18 : α18) (a19 : α19) (a20 : α20) (a21 : α21) (a22 : α22) (a23 : α23) (a24 : α24) (a25 : α25) (a26 : α26) (a27 : α27) (a28 : α28) (a29 : α29) (k : α1 → α2 → α3 → α4 → α5 → α6 → α7 → α8 → α9 → α10 → α11 → α12 → α13 → α14 → α15 → α16 → α17 → α18 → α19 → α20 → α21 → α22 → α23 → α24 → α25 → α26 → α27 → α28 → α29 → Option δ) : bk29 (some (a1, a2, a3, a4, a5, a6, a7, a8, a9, a10, a11, a12, a13, a14, a15, a16, a17, a18, a19, a20, a21, a22, a23, a24, a25, a26, a27, a28, a29)) k = k a1 a2 a3 a4 a5 a6 a7 a8 a9 a10 a11 a12 a13 a14 a15 a16 a17 a18 a19 a20 a21 a22 a23 a24 a25 a26 a27 a28 a29 := rfl
theorem bk30_s {α1 α2 α3 α4 α5 α6 α7 α8 α9 α10 α11 α12 α13 α14 α15 α16 α17 α18 α19 α20 α21 α22 α23 α24 α25 α26 α27 α28 α29 α30 δ : Type} (a1 : α1) (a2 : α2) (a3 : α3) (a4 : α4) (a5 : α5) (a6 : α6) (a7 : α7) (a8 : α8) (a9 : α9) (a10 : α10) (a11 : α11) (a12 : α12) (a13 : α13) (a14 : α14) (a15 : α15) (a16 : α16) (a17 : α17) (a18 : α18) (a19 : α19) (a20 : α20) (a21 : α21) (a22 : α22) (a23 : α23) (a24 : α24) (a25 : α25) (a26 : α26) (a27 : α27) (a28 : α28) (a29 : α29) (a30 : α30) (k : α1 → α2 → α3 → α4 → α5 → α6 → α7 → α8 → α9 → α10 → α11 → α12 → α13 → α14 → α15 → α16 → α17 → α18 → α19 → α20 → α21 → α22 → α23 → α24 → α25 → α26 → α27 → α28 → α29 → α30 → Option δ) : bk30 (some (a1, a2, a3, a4, a5, a6, a7, a8, a9, a10, a11, a12, a13, a14, a15, a16, a17, a18, a19, a20, a21, a22, a23, a24, a25, a26, a27, a28, a29, a30)) k = k a1 a2 a3 a4 a5 a6 a7 a8 a9 a10 a11 a12 a13 a14 a15 a16 a17 a18 a19 a20 a21 a22 a23 a24 a25 a26 a27 a28 a29 a30 := rfl
theorem lm1_ok {α1 ρ : Type} (a1 : α1) (k : α1 → Option ρ) : lm1 (some (.ok (a1))) k = k a1 := rfl
theorem lm1_er {α1 ρ : Type} (e : ρ) (k : α1 → Option ρ) : lm1 (some (.error e) : Option (Except ρ (α1))) k = some e := rfl
theorem lm2_ok {α1 α2 ρ : Type} (a1 : α1) (a2 : α2) (k : α1 → α2 → Option ρ) : lm2 (some (.ok (a1, a2))) k = k a1 a2 := rfl
theorem lm2_er {α1 α2 ρ : Type} (e : ρ) (k : α1 → α2 → Option ρ) : lm2 (some (.error e) : Option (Except ρ (α1 × α2))) k = some e := rfl
theorem lm3_ok {α1 α2 α3 ρ : Type} (a1 : α1) (a2 : α2) (a3 : α3) (k : α1 → α2 → α3 → Option ρ) : lm3 (some (.ok (a1, a2, a3))) k = k a1 a2 a3 := rfl
theorem lm3_er {α1 α2 α3 ρ : Type} (e : ρ) (k : α1 → α2 → α3 → Option ρ) : lm3 (some (.error e) : Option (Except ρ (α1 × α2 × α3))) k = some e := rfl
theorem lm4_ok {α1 α2 α3 α4 ρ : Type} (a1 : α1) (a2 : α2) (a3 : α3) (a4 : α4) (k : α1 → α2 → α3 → α4 → Option ρ) : lm4 (some (.ok (a1, a2, a3, a4))) k = k a1 a2 a3 a4 := rfl
theorem lm4_er {α1 α2 α3 α4 ρ : Type} (e : ρ) (k : α1 → α2 → α3 → α4 → Option ρ) : lm4 (some (.error e) : Option (Except ρ (α1 × α2 × α3 × α4))) k = some e := rfl
theorem lm5_ok {α1 α2 α3 α4 α5 ρ : Type} (a1 : α1) (a2 : α2) (a3 : α3) (a4 : α4) (a5 : α5) (k : α1 → α2 → α3 → α4 → α5 → Option ρ) : lm5 (some (.ok (a1, a2, a3, a4, a5))) k = k a1 a2 a3 a4 a5 := rfl
theorem lm5_er {α1 α2 α3 α4 α5 ρ : Type} (e : ρ) (k : α1 → α2 → α3 → α4 → α5 → Option ρ) : lm5 (some (.error e) : Option (Except ρ (α1 × α2 × α3 × α4 × α5))) k = some e := rfl
theorem lm6_ok {α1 α2 α3 α4 α5 α6 ρ : Type} (a1 : α1) (a2 : α2) (a3 : α3) (a4 : α4) (a5 : α5) (a6 : α6) (k : α1 → α2 → α3 → α4 → α5 → α6 → Option ρ) : lm6 (some (.ok (a1, a2, a3, a4, a5, a6))) k = k a1 a2 a3 a4 a5 a6 := rfl
theorem lm6_er {α1 α2 α3 α4 α5 α6 ρ : Type} (e : ρ) (k : α1 → α2 → α3 → α4 → α5 → α6 → Option ρ) : lm6 (some (.error e) : Option (Except ρ (α1 × α2 × α3 × α4 × α5 × α6))) k = some e := rfl
theorem lm7_ok {α1 α2 α3 α4 α5 α6 α7 ρ : Type} (a1 : α1) (a2 : α2) (a3 : α3) (a4 : α4) (a5 : α5) (a6 : α6) (a7 : α7) (k : α1 → α2 → α3 → α4 → α5 → α6 → α7 → Option ρ) : lm7 (some (.ok (a1, a2, a3, a4, a5, a6, a7))) k = k a1 a2 a3 a4 a5 a6 a7 := rfl
theorem lm7_er {α1 α2 α3 α4 α5 α6 α7 ρ : Type} (e : ρ) (k : α1 → α2 → α3 → α4 → α5 → α6 → α7 → Option ρ) : lm7 (some (.error e) : Option (Except ρ (α1 × α2 × α3 × α4 × α5 × α6 × α7))) k = some e := rfl
/-! ===== tables of rows: so many places are filled, the rest is as it was ===== -/
def fp {α : Type} (g old : Nat → α) (k : Nat) : Nat → α := fun i => if i < k then g i else old i
theorem fp_0 {α : Type} (g old : Nat → α) : fp g old 0 = old := funext fun i => if_neg (Nat.not_lt_zero i)
theorem fp_at {α : Type} {g old : Nat → α} {k i : Nat} (h : i < k) : fp g old k i = g i := if_pos h
theorem fp_updL (g old : Nat → Int64) (k : Nat) : vp_updL (fp g old k) k (g k) = fp g old (k + 1) := by
  funext i
  unfold vp_updL fp
  by_cases h : i = k
  · subst h
    rw [if_pos rfl, if_pos (by omega)]
  · rw [if_neg h]
    by_cases h2 : i < k
    · rw [if_pos h2, if_pos (by omega)]
    · rw [if_neg h2, if_neg (by omega)]
theorem fp_upd (g old : Nat → Int32) (k : Nat) : upd (fp g old k) k (g k) = fp g old (k + 1) := by
  funext i
  unfold upd fp
  by_cases h : i = k
  · subst h
    rw [if_pos rfl, if_pos (by omega)]
  · rw [if_neg h]
    by_cases h2 : i < k
    · rw [if_pos h2, if_pos (by omega)]
    · rw [if_neg h2, if_neg (by omega)]
/-- the rows of a list of tickets -/
def rl (S : List Nat) (r : Nat) (D : List Nat) : Nat → Int64 := fun i => lN (wl (pw (nth S i) r (nth D)) D.length)
def rh (S : List Nat) (r : Nat) (D : List Nat) : Nat → Int64 := fun i => lN (wh (pw (nth S i) r (nth D)) D.length)
theorem sets_lt {e fo n i : Nat} (hn : n ≤ 8) (h : i < (sets e fo (2 ^ n)).length) : nth (sets e fo (2 ^ n)) i < 256 := Nat.lt_of_lt_of_le (sets_mem (nth_mem h)).1 (pow_256 hn)
theorem findAll_e {n t d r : Nat} {od os : Nat → Int32} {oh ol : Nat → Int64} (hn : n ≤ 8) (ht : t ≤ 8) (hd : d ≤ 8) (hr : r ≤ 8) :
    f_Model_findAll (nI d) (nI r) (nI n) (nI t) od os oh ol = some (nI (sets d 0 (2 ^ n)).length, nI (sets t 0 (2 ^ n)).length, aL (sets d 0 (2 ^ n)) od, aL (sets t 0 (2 ^ n)) os, fp (rh (sets t 0 (2 ^ n)) r (sets d 0 (2 ^ n))) oh (sets t 0 (2 ^ n)).length, fp (rl (sets t 0 (2 ^ n)) r (sets d 0 (2 ^ n))) ol (sets t 0 (2 ^ n)).length) := by
  unfold f_Model_findAll
  rw [findA_e hn ht hd]
  have hD : (sets d 0 (2 ^ n)).length ≤ 70 := sets_70 hd (pow_256 hn)
  have hS : (sets t 0 (2 ^ n)).length ≤ 70 := sets_70 ht (pow_256 hn)
  have hlt : ∀ i, i < (sets t 0 (2 ^ n)).length → nth (sets t 0 (2 ^ n)) i < 256 := fun i h => sets_lt hn h
  generalize sets d 0 (2 ^ n) = DD at hD ⊢
  generalize sets t 0 (2 ^ n) = SS at hS hlt ⊢
  rw [bk5_s]
  have key := loopC (fun k i (s : (Nat → Int64) × (Nat → Int64)) => L_Model_findAll_94 (nI DD.length) (nI SS.length) (aL DD od) (aL SS os) (nI r) k i s.1 s.2) SS.length (fun k => (fp (rh SS r DD) oh k, fp (rl SS r DD) ol k)) ?_ SS.length 0 300 (by omega) (by omega)
  · dsimp only at key
    rw [fp_0, fp_0] at key
    rw [show (0 : Int32) = nI 0 from rfl, key, show 300 - SS.length = (299 - SS.length) + 1 by omega, L_Model_findAll_94, if_pos (nI_le (Nat.le_refl _) (by omega))]
    rfl
  · intro m k hk
    dsimp only
    rw [L_Model_findAll_94, if_neg (nI_ge hk (by omega)), gdN (by omega) (by decide), nI_clamp (by omega), aL_at hk, lowOf_e (hlt k hk) hr hD (fun j hj => aL_at hj), bk1_s, gdN (by omega) (by decide), gdN (by omega) (by decide), highOf_e (hlt k hk) hr hD (fun j hj => aL_at hj), bk1_s, gdN (by omega) (by decide), nI_1]
    rw [show lN (wh (pw (nth SS k) r fun j => nth DD j) DD.length) = rh SS r DD k from rfl, show lN (wl (pw (nth SS k) r fun j => nth DD j) DD.length) = rl SS r DD k from rfl, fp_updL, fp_updL]
/-- the tickets that could be, and their rows -/
theorem takeGame_e {n t d r fo : Nat} {od os : Nat → Int32} {oh ol : Nat → Int64} (hn : n ≤ 8) (ht : t ≤ 8) (hd : d ≤ 8) (hr : r ≤ 8) (hf : fo < 256) (hne : 0 < (sets t fo (2 ^ n)).length) :
    f_Wheel_takeGame (nI d) (nI fo) (nI n) (nI r) (nI t) od os oh ol = some (nI (sets d 0 (2 ^ n)).length, aL (sets d 0 (2 ^ n)) od, nI (sets t fo (2 ^ n)).length, aL (sets t fo (2 ^ n)) os, nI (sets d 0 (2 ^ n)).length, nI (fb_ct (pw (nth (sets t fo (2 ^ n)) 0) r (nth (sets d 0 (2 ^ n)))) (sets d 0 (2 ^ n)).length), 0, 0, 0, 0, fp (rh (sets t fo (2 ^ n)) r (sets d 0 (2 ^ n))) oh (sets t fo (2 ^ n)).length, fp (rl (sets t fo (2 ^ n)) r (sets d 0 (2 ^ n))) ol (sets t fo (2 ^ n)).length) := by
  unfold f_Wheel_takeGame
  rw [show (0 : Int32) = nI 0 from rfl, fill_e hn hd (by decide), bk2_s, fill_e hn ht hf, bk2_s]
  have hD : (sets d 0 (2 ^ n)).length ≤ 70 := sets_70 hd (pow_256 hn)
  have hS : (sets t fo (2 ^ n)).length ≤ 70 := sets_70 ht (pow_256 hn)
  have hlt : ∀ i, i < (sets t fo (2 ^ n)).length → nth (sets t fo (2 ^ n)) i < 256 := fun i h => sets_lt hn h
  generalize sets d 0 (2 ^ n) = DD at hD ⊢
  generalize sets t fo (2 ^ n) = SS at hS hlt hne ⊢
  have key := loopC (fun k i (s : (Nat → Int64) × (Nat → Int64)) => L_Wheel_takeGame_37 (nI DD.length) (aL DD od) (nI SS.length) (aL SS os) (nI r) k i s.1 s.2) SS.length (fun k => (fp (rh SS r DD) oh k, fp (rl SS r DD) ol k)) ?_ SS.length 0 300 (by omega) (by omega)
  · dsimp only at key
    rw [fp_0, fp_0] at key
    rw [key, show 300 - SS.length = (299 - SS.length) + 1 by omega, L_Wheel_takeGame_37, show f_Sets_size (nI SS.length) = some (nI SS.length) from rfl, bk1_s, if_pos (nI_le (Nat.le_refl _) (by omega)), bk3_s, show f_Sets_size (nI DD.length) = some (nI DD.length) from rfl, bk1_s]
    unfold f_Wheel_wonByOne
    rw [show (0 : Int32) = nI 0 from rfl, count_e (i := 0) (p := pw (nth SS 0) r (nth DD)) (by decide) (by decide) hD (fp_at hne) (fp_at hne)]
    rfl
  · intro m k hk
    dsimp only
    rw [L_Wheel_takeGame_37, show f_Sets_size (nI SS.length) = some (nI SS.length) from rfl, bk1_s, if_neg (nI_ge hk (by omega)), Sets_at_e (by omega), bk1_s, aL_at hk, markWon_e (by omega) (by decide) (hlt k hk) hr hD (fun j hj => aL_at hj), bk2_s, nI_1]
    rw [show lN (wh (pw (nth SS k) r fun j => nth DD j) DD.length) = rh SS r DD k from rfl, show lN (wl (pw (nth SS k) r fun j => nth DD j) DD.length) = rl SS r DD k from rfl, fp_updL, fp_updL]
/-- the rows of the tickets there are -/
def tl (tk : Nat → Nat) (r : Nat) (D : List Nat) : Nat → Int64 := fun i => lN (wl (pw (tk i) r (nth D)) D.length)
def th (tk : Nat → Nat) (r : Nat) (D : List Nat) : Nat → Int64 := fun i => lN (wh (pw (tk i) r (nth D)) D.length)
theorem takeTickets_e {c r : Nat} {tk : Nat → Nat} {D : List Nat} {f cells : Nat → Int32} {oh ol : Nat → Int64} (hc : c ≤ 6) (hr : r ≤ 8) (hD : D.length ≤ 70) (htk : ∀ i, i < c → f i = nI (tk i) ∧ tk i < 256) (hcl : ∀ k, k < D.length → cells k = nI (nth D k)) :
    f_Wheel_takeTickets (nI r) (nI c) f (nI D.length) cells oh ol = some (nI c, fp (th tk r D) oh c, fp (tl tk r D) ol c) := by
  unfold f_Wheel_takeTickets
  have key := loopC (fun k i (s : (Nat → Int64) × (Nat → Int64)) => L_Wheel_takeTickets_10 (nI c) (nI r) f (nI D.length) cells k i s.1 s.2) c (fun k => (fp (th tk r D) oh k, fp (tl tk r D) ol k)) ?_ c 0 300 (by omega) (by omega)
  · dsimp only at key
    rw [fp_0, fp_0] at key
    rw [show (0 : Int32) = nI 0 from rfl, key, show 300 - c = (299 - c) + 1 by omega, L_Wheel_takeTickets_10, if_pos (nI_le (Nat.le_refl _) (by omega))]
    rfl
  · intro m k hk
    dsimp only
    rw [L_Wheel_takeTickets_10, if_neg (nI_ge hk (by omega)), Row_at_e (by omega) (by decide), bk1_s, (htk k hk).1, markWon_e (by omega) (by decide) (htk k hk).2 hr hD hcl, bk2_s, nI_1]
    rw [show lN (wh (pw (tk k) r fun j => nth D j) D.length) = th tk r D k from rfl, show lN (wl (pw (tk k) r fun j => nth D j) D.length) = tl tk r D k from rfl, fp_updL, fp_updL]
