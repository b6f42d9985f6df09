theorem zr_box {S : zl_S} {M : zm_S} (h : zr S M) (x : Int32) : (zl_addbox S x).1 = (zm_box M x).1 ∧ zr (zl_addbox S x).2 (zm_box M x).2 := sorry
theorem zr_tape {S : zl_S} {M : zm_S} (h : zr S M) (x : Int32) : (zl_tape S x).1 = (zm_tape M x).1 ∧ zr (zl_tape S x).2 (zm_tape M x).2 := sorry
theorem zr_reserve {S : zl_S} {M : zm_S} (h : zr S M) (x : Int32) (t : Int64) : (zl_reserve S x t).1 = (zm_reserve M x t).1 ∧ zr (zl_reserve S x t).2 (zm_reserve M x t).2 := sorry
theorem zr_put {S : zl_S} {M : zm_S} (h : zr S M) (x y : Int32) (t : Int64) : (zl_put S x y t).1 = (zm_put M x y t).1 ∧ zr (zl_put S x y t).2 (zm_put M x y t).2 := sorry
theorem zr_close {S : zl_S} {M : zm_S} (h : zr S M) (x : Int32) (t : Int64) : (zl_close S x t).1 = (zm_close M x t).1 ∧ zr (zl_close S x t).2 (zm_close M x t).2 := sorry
theorem zr_type {S : zl_S} {M : zm_S} (h : zr S M) (x : Int32) (t : Int64) : (zl_type S x t).1 = (zm_type M x t).1 ∧ zr (zl_type S x t).2 (zm_type M x t).2 := sorry
theorem zr_code {S : zl_S} {M : zm_S} (h : zr S M) (x : Int32) : zl_code S x = zm_code M x ∧ True := sorry
theorem zr_door {S : zl_S} {M : zm_S} (h : zr S M) (x y : Int32) (t : Int64) : (zl_door S x y t).1 = (zm_door M x y t).1 ∧ zr (zl_door S x y t).2 (zm_door M x y t).2 := sorry
theorem zr_tick {S : zl_S} {M : zm_S} (h : zr S M) (t : Int64) : (zl_tick S t).1 = (zm_tick M t).1 ∧ zr (zl_tick S t).2 (zm_tick M t).2 := sorry
theorem zr_take {S : zl_S} {M : zm_S} (h : zr S M) (x y : Int32) : (zl_take S x y).1 = (zm_take M x y).1 ∧ zr (zl_take S x y).2 (zm_take M x y).2 := sorry
theorem zr_item {S : zl_S} {M : zm_S} (h : zr S M) (x : Int32) : zl_item S x = zm_item M x ∧ True := sorry
theorem zr_freed {S : zl_S} {M : zm_S} (h : zr S M) (x : Int32) : zl_freed S x = zm_freed M x ∧ True := sorry
