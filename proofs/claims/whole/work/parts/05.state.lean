abbrev CmT : Type := (((Nat → Nat) × (List Nat)) × (Nat → Nat))
abbrev ClT : Type := (((((((Nat → Int32) × (Nat → Option Nat)) × ((Nat → Int32) × (Nat → Option Nat))) × (((Nat → Option Nat) × (Nat → Int32)) × (Nat → Int32))) × ((((Nat → Option Nat) × (Nat → Int32)) × ((Nat → Option Nat) × (Nat → Option Nat))) × (((Nat → Option Nat) × (Nat → Int32)) × (Nat → Option Nat)))) × (((((Nat → Int32) × (Nat → Option Nat)) × ((Nat → Option Nat) × (Nat → Option Nat))) × (((Nat → Int32) × (Nat → Int32)) × (Nat → Int32))) × ((((Nat → Option Nat) × (Nat → Int32)) × (Option Nat)) × (((Int32) × (Option Nat)) × (Option Nat))))) × ((((((Option Nat) × (Option Nat)) × ((Option Nat) × (Int32))) × (((Option Nat) × (Option Nat)) × (Option Nat))) × ((((Option Nat) × (Option Nat)) × (Option Nat)) × (((Int32) × (Nat → Nat → Int32)) × (Nat → Nat → Int32)))) × (((((Nat → Nat → Int32) × (Nat → Nat → Int32)) × ((Nat → Nat → Int32) × (Nat → Nat → Int64))) × (((Nat → Nat → Int64) × (Nat → Nat → Option Nat)) × (Nat → Option Nat))) × ((((Nat → Int32) × (Nat → Int32)) × (Nat → Int32)) × (((Nat → Int32) × (Nat → Int32)) × (Nat → Int32))))))
abbrev MoT : Type := ((((((Nat → Option Nat) × (Nat → Int32)) × ((Int32) × (Nat → Int32))) × (((Nat → Int32) × (Nat → Int32)) × (Nat → Int32))) × ((((Nat → Int32) × (Nat → Int32)) × ((Nat → Int32) × (Nat → Int32))) × (((Nat → Int32) × (Nat → Int32)) × (Nat → Int32)))) × (((((Nat → Int64) × (Nat → Int32)) × ((Int32) × (Nat → Int32))) × (((Nat → Int32) × (Nat → Int32)) × (Nat → Int32))) × ((((Nat → Int32) × (Int32)) × ((Int32) × (Nat → Int32))) × (((Nat → Int32) × (Int32)) × (Int32)))))
abbrev PS : Type := CmT × ClT × MoT
abbrev Gx : Type := va_G × (Nat → ClassId) × Nat
abbrev mo (S : PS) : MoT := S.2.2
abbrev mo_ (S : PS) (v : MoT) : PS := (S.1, S.2.1, v)
abbrev kd (S : PS) : Nat → Nat := S.1.1.1
abbrev kd_ (S : PS) (v : Nat → Nat) : PS := (((v, S.1.1.2), S.1.2), S.2)
abbrev La (S : PS) : List Nat := S.1.1.2
abbrev La_ (S : PS) (v : List Nat) : PS := (((S.1.1.1, v), S.1.2), S.2)
abbrev ln (S : PS) : Nat → Nat := S.1.2
abbrev ln_ (S : PS) (v : Nat → Nat) : PS := ((S.1.1, v), S.2)
abbrev br_kind (S : PS) : Nat → Int32 := S.2.1.1.1.1.1.1.1
abbrev br_kind_ (S : PS) (v : Nat → Int32) : PS := (S.1, ((((((v, S.2.1.1.1.1.1.1.2), S.2.1.1.1.1.1.2), S.2.1.1.1.1.2), S.2.1.1.1.2), S.2.1.1.2), S.2.1.2), S.2.2)
abbrev br_row (S : PS) : Nat → Option Nat := S.2.1.1.1.1.1.1.2
abbrev br_row_ (S : PS) (v : Nat → Option Nat) : PS := (S.1, ((((((S.2.1.1.1.1.1.1.1, v), S.2.1.1.1.1.1.2), S.2.1.1.1.1.2), S.2.1.1.1.2), S.2.1.1.2), S.2.1.2), S.2.2)
abbrev bk_kind (S : PS) : Nat → Int32 := S.2.1.1.1.1.1.2.1
abbrev bk_kind_ (S : PS) (v : Nat → Int32) : PS := (S.1, (((((S.2.1.1.1.1.1.1, (v, S.2.1.1.1.1.1.2.2)), S.2.1.1.1.1.2), S.2.1.1.1.2), S.2.1.1.2), S.2.1.2), S.2.2)
abbrev bk_list (S : PS) : Nat → Option Nat := S.2.1.1.1.1.1.2.2
abbrev bk_list_ (S : PS) (v : Nat → Option Nat) : PS := (S.1, (((((S.2.1.1.1.1.1.1, (S.2.1.1.1.1.1.2.1, v)), S.2.1.1.1.1.2), S.2.1.1.1.2), S.2.1.1.2), S.2.1.2), S.2.2)
abbrev bk_row (S : PS) : Nat → Option Nat := S.2.1.1.1.1.2.1.1
abbrev bk_row_ (S : PS) (v : Nat → Option Nat) : PS := (S.1, ((((S.2.1.1.1.1.1, ((v, S.2.1.1.1.1.2.1.2), S.2.1.1.1.1.2.2)), S.2.1.1.1.2), S.2.1.1.2), S.2.1.2), S.2.2)
abbrev bk_edges (S : PS) : Nat → Int32 := S.2.1.1.1.1.2.1.2
abbrev bk_edges_ (S : PS) (v : Nat → Int32) : PS := (S.1, ((((S.2.1.1.1.1.1, ((S.2.1.1.1.1.2.1.1, v), S.2.1.1.1.1.2.2)), S.2.1.1.1.2), S.2.1.1.2), S.2.1.2), S.2.2)
abbrev bk_part (S : PS) : Nat → Int32 := S.2.1.1.1.1.2.2
abbrev bk_part_ (S : PS) (v : Nat → Int32) : PS := (S.1, ((((S.2.1.1.1.1.1, (S.2.1.1.1.1.2.1, v)), S.2.1.1.1.2), S.2.1.1.2), S.2.1.2), S.2.2)
abbrev bk_eb (S : PS) : Nat → Option Nat := S.2.1.1.1.2.1.1.1
abbrev bk_eb_ (S : PS) (v : Nat → Option Nat) : PS := (S.1, (((S.2.1.1.1.1, (((v, S.2.1.1.1.2.1.1.2), S.2.1.1.1.2.1.2), S.2.1.1.1.2.2)), S.2.1.1.2), S.2.1.2), S.2.2)
abbrev dr_kind (S : PS) : Nat → Int32 := S.2.1.1.1.2.1.1.2
abbrev dr_kind_ (S : PS) (v : Nat → Int32) : PS := (S.1, (((S.2.1.1.1.1, (((S.2.1.1.1.2.1.1.1, v), S.2.1.1.1.2.1.2), S.2.1.1.1.2.2)), S.2.1.1.2), S.2.1.2), S.2.2)
abbrev dr_list (S : PS) : Nat → Option Nat := S.2.1.1.1.2.1.2.1
abbrev dr_list_ (S : PS) (v : Nat → Option Nat) : PS := (S.1, (((S.2.1.1.1.1, ((S.2.1.1.1.2.1.1, (v, S.2.1.1.1.2.1.2.2)), S.2.1.1.1.2.2)), S.2.1.1.2), S.2.1.2), S.2.2)
abbrev ls_names (S : PS) : Nat → Option Nat := S.2.1.1.1.2.1.2.2
abbrev ls_names_ (S : PS) (v : Nat → Option Nat) : PS := (S.1, (((S.2.1.1.1.1, ((S.2.1.1.1.2.1.1, (S.2.1.1.1.2.1.2.1, v)), S.2.1.1.1.2.2)), S.2.1.1.2), S.2.1.2), S.2.2)
abbrev ls_values (S : PS) : Nat → Option Nat := S.2.1.1.1.2.2.1.1
abbrev ls_values_ (S : PS) (v : Nat → Option Nat) : PS := (S.1, (((S.2.1.1.1.1, (S.2.1.1.1.2.1, ((v, S.2.1.1.1.2.2.1.2), S.2.1.1.1.2.2.2))), S.2.1.1.2), S.2.1.2), S.2.2)
abbrev ls_size (S : PS) : Nat → Int32 := S.2.1.1.1.2.2.1.2
abbrev ls_size_ (S : PS) (v : Nat → Int32) : PS := (S.1, (((S.2.1.1.1.1, (S.2.1.1.1.2.1, ((S.2.1.1.1.2.2.1.1, v), S.2.1.1.1.2.2.2))), S.2.1.1.2), S.2.1.2), S.2.2)
abbrev nm_bytes (S : PS) : Nat → Option Nat := S.2.1.1.1.2.2.2
abbrev nm_bytes_ (S : PS) (v : Nat → Option Nat) : PS := (S.1, (((S.2.1.1.1.1, (S.2.1.1.1.2.1, (S.2.1.1.1.2.2.1, v))), S.2.1.1.2), S.2.1.2), S.2.2)
abbrev rw_bits (S : PS) : Nat → Int32 := S.2.1.1.2.1.1.1.1
abbrev rw_bits_ (S : PS) (v : Nat → Int32) : PS := (S.1, ((S.2.1.1.1, ((((v, S.2.1.1.2.1.1.1.2), S.2.1.1.2.1.1.2), S.2.1.1.2.1.2), S.2.1.1.2.2)), S.2.1.2), S.2.2)
abbrev rw_words (S : PS) : Nat → Option Nat := S.2.1.1.2.1.1.1.2
abbrev rw_words_ (S : PS) (v : Nat → Option Nat) : PS := (S.1, ((S.2.1.1.1, ((((S.2.1.1.2.1.1.1.1, v), S.2.1.1.2.1.1.2), S.2.1.1.2.1.2), S.2.1.1.2.2)), S.2.1.2), S.2.2)
abbrev rw_ta (S : PS) : Nat → Option Nat := S.2.1.1.2.1.1.2.1
abbrev rw_ta_ (S : PS) (v : Nat → Option Nat) : PS := (S.1, ((S.2.1.1.1, (((S.2.1.1.2.1.1.1, (v, S.2.1.1.2.1.1.2.2)), S.2.1.1.2.1.2), S.2.1.1.2.2)), S.2.1.2), S.2.2)
abbrev rw_tb (S : PS) : Nat → Option Nat := S.2.1.1.2.1.1.2.2
abbrev rw_tb_ (S : PS) (v : Nat → Option Nat) : PS := (S.1, ((S.2.1.1.1, (((S.2.1.1.2.1.1.1, (S.2.1.1.2.1.1.2.1, v)), S.2.1.1.2.1.2), S.2.1.1.2.2)), S.2.1.2), S.2.2)
abbrev rw_la (S : PS) : Nat → Int32 := S.2.1.1.2.1.2.1.1
abbrev rw_la_ (S : PS) (v : Nat → Int32) : PS := (S.1, ((S.2.1.1.1, ((S.2.1.1.2.1.1, ((v, S.2.1.1.2.1.2.1.2), S.2.1.1.2.1.2.2)), S.2.1.1.2.2)), S.2.1.2), S.2.2)
abbrev rw_lb (S : PS) : Nat → Int32 := S.2.1.1.2.1.2.1.2
abbrev rw_lb_ (S : PS) (v : Nat → Int32) : PS := (S.1, ((S.2.1.1.1, ((S.2.1.1.2.1.1, ((S.2.1.1.2.1.2.1.1, v), S.2.1.1.2.1.2.2)), S.2.1.1.2.2)), S.2.1.2), S.2.2)
abbrev rw_ones (S : PS) : Nat → Int32 := S.2.1.1.2.1.2.2
abbrev rw_ones_ (S : PS) (v : Nat → Int32) : PS := (S.1, ((S.2.1.1.1, ((S.2.1.1.2.1.1, (S.2.1.1.2.1.2.1, v)), S.2.1.1.2.2)), S.2.1.2), S.2.2)
abbrev wi_numbers (S : PS) : Nat → Option Nat := S.2.1.1.2.2.1.1.1
abbrev wi_numbers_ (S : PS) (v : Nat → Option Nat) : PS := (S.1, ((S.2.1.1.1, (S.2.1.1.2.1, (((v, S.2.1.1.2.2.1.1.2), S.2.1.1.2.2.1.2), S.2.1.1.2.2.2))), S.2.1.2), S.2.2)
abbrev wi_size (S : PS) : Nat → Int32 := S.2.1.1.2.2.1.1.2
abbrev wi_size_ (S : PS) (v : Nat → Int32) : PS := (S.1, ((S.2.1.1.1, (S.2.1.1.2.1, (((S.2.1.1.2.2.1.1.1, v), S.2.1.1.2.2.1.2), S.2.1.1.2.2.2))), S.2.1.2), S.2.2)
abbrev tp_bytes (S : PS) : Option Nat := S.2.1.1.2.2.1.2
abbrev tp_bytes_ (S : PS) (v : Option Nat) : PS := (S.1, ((S.2.1.1.1, (S.2.1.1.2.1, ((S.2.1.1.2.2.1.1, v), S.2.1.1.2.2.2))), S.2.1.2), S.2.2)
abbrev tp_used (S : PS) : Int32 := S.2.1.1.2.2.2.1.1
abbrev tp_used_ (S : PS) (v : Int32) : PS := (S.1, ((S.2.1.1.1, (S.2.1.1.2.1, (S.2.1.1.2.2.1, ((v, S.2.1.1.2.2.2.1.2), S.2.1.1.2.2.2.2)))), S.2.1.2), S.2.2)
abbrev bi_alike (S : PS) : Option Nat := S.2.1.1.2.2.2.1.2
abbrev bi_alike_ (S : PS) (v : Option Nat) : PS := (S.1, ((S.2.1.1.1, (S.2.1.1.2.1, (S.2.1.1.2.2.1, ((S.2.1.1.2.2.2.1.1, v), S.2.1.1.2.2.2.2)))), S.2.1.2), S.2.2)
abbrev bi_first (S : PS) : Option Nat := S.2.1.1.2.2.2.2
abbrev bi_first_ (S : PS) (v : Option Nat) : PS := (S.1, ((S.2.1.1.1, (S.2.1.1.2.1, (S.2.1.1.2.2.1, (S.2.1.1.2.2.2.1, v)))), S.2.1.2), S.2.2)
abbrev bi_depth (S : PS) : Option Nat := S.2.1.2.1.1.1.1.1
abbrev bi_depth_ (S : PS) (v : Option Nat) : PS := (S.1, (S.2.1.1, (((((v, S.2.1.2.1.1.1.1.2), S.2.1.2.1.1.1.2), S.2.1.2.1.1.2), S.2.1.2.1.2), S.2.1.2.2)), S.2.2)
abbrev bi_stem (S : PS) : Option Nat := S.2.1.2.1.1.1.1.2
abbrev bi_stem_ (S : PS) (v : Option Nat) : PS := (S.1, (S.2.1.1, (((((S.2.1.2.1.1.1.1.1, v), S.2.1.2.1.1.1.2), S.2.1.2.1.1.2), S.2.1.2.1.2), S.2.1.2.2)), S.2.2)
abbrev bi_degree (S : PS) : Option Nat := S.2.1.2.1.1.1.2.1
abbrev bi_degree_ (S : PS) (v : Option Nat) : PS := (S.1, (S.2.1.1, ((((S.2.1.2.1.1.1.1, (v, S.2.1.2.1.1.1.2.2)), S.2.1.2.1.1.2), S.2.1.2.1.2), S.2.1.2.2)), S.2.2)
abbrev bi_nodes (S : PS) : Int32 := S.2.1.2.1.1.1.2.2
abbrev bi_nodes_ (S : PS) (v : Int32) : PS := (S.1, (S.2.1.1, ((((S.2.1.2.1.1.1.1, (S.2.1.2.1.1.1.2.1, v)), S.2.1.2.1.1.2), S.2.1.2.1.2), S.2.1.2.2)), S.2.2)
abbrev ba_places (S : PS) : Option Nat := S.2.1.2.1.1.2.1.1
abbrev ba_places_ (S : PS) (v : Option Nat) : PS := (S.1, (S.2.1.1, (((S.2.1.2.1.1.1, ((v, S.2.1.2.1.1.2.1.2), S.2.1.2.1.1.2.2)), S.2.1.2.1.2), S.2.1.2.2)), S.2.2)
abbrev ba_reel (S : PS) : Option Nat := S.2.1.2.1.1.2.1.2
abbrev ba_reel_ (S : PS) (v : Option Nat) : PS := (S.1, (S.2.1.1, (((S.2.1.2.1.1.1, ((S.2.1.2.1.1.2.1.1, v), S.2.1.2.1.1.2.2)), S.2.1.2.1.2), S.2.1.2.2)), S.2.2)
abbrev ba_shown (S : PS) : Option Nat := S.2.1.2.1.1.2.2
abbrev ba_shown_ (S : PS) (v : Option Nat) : PS := (S.1, (S.2.1.1, (((S.2.1.2.1.1.1, (S.2.1.2.1.1.2.1, v)), S.2.1.2.1.2), S.2.1.2.2)), S.2.2)
abbrev ba_asked (S : PS) : Option Nat := S.2.1.2.1.2.1.1.1
abbrev ba_asked_ (S : PS) (v : Option Nat) : PS := (S.1, (S.2.1.1, ((S.2.1.2.1.1, (((v, S.2.1.2.1.2.1.1.2), S.2.1.2.1.2.1.2), S.2.1.2.1.2.2)), S.2.1.2.2)), S.2.2)
abbrev ba_binder (S : PS) : Option Nat := S.2.1.2.1.2.1.1.2
abbrev ba_binder_ (S : PS) (v : Option Nat) : PS := (S.1, (S.2.1.1, ((S.2.1.2.1.1, (((S.2.1.2.1.2.1.1.1, v), S.2.1.2.1.2.1.2), S.2.1.2.1.2.2)), S.2.1.2.2)), S.2.2)
abbrev ba_pending (S : PS) : Option Nat := S.2.1.2.1.2.1.2
abbrev ba_pending_ (S : PS) (v : Option Nat) : PS := (S.1, (S.2.1.1, ((S.2.1.2.1.1, ((S.2.1.2.1.2.1.1, v), S.2.1.2.1.2.2)), S.2.1.2.2)), S.2.2)
abbrev ba_refusal (S : PS) : Int32 := S.2.1.2.1.2.2.1.1
abbrev ba_refusal_ (S : PS) (v : Int32) : PS := (S.1, (S.2.1.1, ((S.2.1.2.1.1, (S.2.1.2.1.2.1, ((v, S.2.1.2.1.2.2.1.2), S.2.1.2.1.2.2.2))), S.2.1.2.2)), S.2.2)
abbrev nb_a (S : PS) : Nat → Nat → Int32 := S.2.1.2.1.2.2.1.2
abbrev nb_a_ (S : PS) (v : Nat → Nat → Int32) : PS := (S.1, (S.2.1.1, ((S.2.1.2.1.1, (S.2.1.2.1.2.1, ((S.2.1.2.1.2.2.1.1, v), S.2.1.2.1.2.2.2))), S.2.1.2.2)), S.2.2)
abbrev ta_a (S : PS) : Nat → Nat → Int32 := S.2.1.2.1.2.2.2
abbrev ta_a_ (S : PS) (v : Nat → Nat → Int32) : PS := (S.1, (S.2.1.1, ((S.2.1.2.1.1, (S.2.1.2.1.2.1, (S.2.1.2.1.2.2.1, v))), S.2.1.2.2)), S.2.2)
abbrev tb_a (S : PS) : Nat → Nat → Int32 := S.2.1.2.2.1.1.1.1
abbrev tb_a_ (S : PS) (v : Nat → Nat → Int32) : PS := (S.1, (S.2.1.1, (S.2.1.2.1, ((((v, S.2.1.2.2.1.1.1.2), S.2.1.2.2.1.1.2), S.2.1.2.2.1.2), S.2.1.2.2.2))), S.2.2)
abbrev eb_a (S : PS) : Nat → Nat → Int32 := S.2.1.2.2.1.1.1.2
abbrev eb_a_ (S : PS) (v : Nat → Nat → Int32) : PS := (S.1, (S.2.1.1, (S.2.1.2.1, ((((S.2.1.2.2.1.1.1.1, v), S.2.1.2.2.1.1.2), S.2.1.2.2.1.2), S.2.1.2.2.2))), S.2.2)
abbrev wn_a (S : PS) : Nat → Nat → Int32 := S.2.1.2.2.1.1.2.1
abbrev wn_a_ (S : PS) (v : Nat → Nat → Int32) : PS := (S.1, (S.2.1.1, (S.2.1.2.1, (((S.2.1.2.2.1.1.1, (v, S.2.1.2.2.1.1.2.2)), S.2.1.2.2.1.2), S.2.1.2.2.2))), S.2.2)
abbrev wd_a (S : PS) : Nat → Nat → Int64 := S.2.1.2.2.1.1.2.2
abbrev wd_a_ (S : PS) (v : Nat → Nat → Int64) : PS := (S.1, (S.2.1.1, (S.2.1.2.1, (((S.2.1.2.2.1.1.1, (S.2.1.2.2.1.1.2.1, v)), S.2.1.2.2.1.2), S.2.1.2.2.2))), S.2.2)
abbrev vl_a (S : PS) : Nat → Nat → Int64 := S.2.1.2.2.1.2.1.1
abbrev vl_a_ (S : PS) (v : Nat → Nat → Int64) : PS := (S.1, (S.2.1.1, (S.2.1.2.1, ((S.2.1.2.2.1.1, ((v, S.2.1.2.2.1.2.1.2), S.2.1.2.2.1.2.2)), S.2.1.2.2.2))), S.2.2)
abbrev nr_a (S : PS) : Nat → Nat → Option Nat := S.2.1.2.2.1.2.1.2
abbrev nr_a_ (S : PS) (v : Nat → Nat → Option Nat) : PS := (S.1, (S.2.1.1, (S.2.1.2.1, ((S.2.1.2.2.1.1, ((S.2.1.2.2.1.2.1.1, v), S.2.1.2.2.1.2.2)), S.2.1.2.2.2))), S.2.2)
abbrev pl_a (S : PS) : Nat → Option Nat := S.2.1.2.2.1.2.2
abbrev pl_a_ (S : PS) (v : Nat → Option Nat) : PS := (S.1, (S.2.1.1, (S.2.1.2.1, ((S.2.1.2.2.1.1, (S.2.1.2.2.1.2.1, v)), S.2.1.2.2.2))), S.2.2)
abbrev tp_a (S : PS) : Nat → Int32 := S.2.1.2.2.2.1.1.1
abbrev tp_a_ (S : PS) (v : Nat → Int32) : PS := (S.1, (S.2.1.1, (S.2.1.2.1, (S.2.1.2.2.1, (((v, S.2.1.2.2.2.1.1.2), S.2.1.2.2.2.1.2), S.2.1.2.2.2.2)))), S.2.2)
abbrev al_a (S : PS) : Nat → Int32 := S.2.1.2.2.2.1.1.2
abbrev al_a_ (S : PS) (v : Nat → Int32) : PS := (S.1, (S.2.1.1, (S.2.1.2.1, (S.2.1.2.2.1, (((S.2.1.2.2.2.1.1.1, v), S.2.1.2.2.2.1.2), S.2.1.2.2.2.2)))), S.2.2)
abbrev fi_a (S : PS) : Nat → Int32 := S.2.1.2.2.2.1.2
abbrev fi_a_ (S : PS) (v : Nat → Int32) : PS := (S.1, (S.2.1.1, (S.2.1.2.1, (S.2.1.2.2.1, ((S.2.1.2.2.2.1.1, v), S.2.1.2.2.2.2)))), S.2.2)
abbrev de_a (S : PS) : Nat → Int32 := S.2.1.2.2.2.2.1.1
abbrev de_a_ (S : PS) (v : Nat → Int32) : PS := (S.1, (S.2.1.1, (S.2.1.2.1, (S.2.1.2.2.1, (S.2.1.2.2.2.1, ((v, S.2.1.2.2.2.2.1.2), S.2.1.2.2.2.2.2))))), S.2.2)
abbrev st_a (S : PS) : Nat → Int32 := S.2.1.2.2.2.2.1.2
abbrev st_a_ (S : PS) (v : Nat → Int32) : PS := (S.1, (S.2.1.1, (S.2.1.2.1, (S.2.1.2.2.1, (S.2.1.2.2.2.1, ((S.2.1.2.2.2.2.1.1, v), S.2.1.2.2.2.2.2))))), S.2.2)
abbrev dg_a (S : PS) : Nat → Int32 := S.2.1.2.2.2.2.2
abbrev dg_a_ (S : PS) (v : Nat → Int32) : PS := (S.1, (S.2.1.1, (S.2.1.2.1, (S.2.1.2.2.1, (S.2.1.2.2.2.1, (S.2.1.2.2.2.2.1, v))))), S.2.2)
abbrev mo_r (M : MoT) : Nat → Option Nat := M.1.1.1.1.1
abbrev mo_r_ (M : MoT) (v : Nat → Option Nat) : MoT := (((((v, M.1.1.1.1.2), M.1.1.1.2), M.1.1.2), M.1.2), M.2)
abbrev m_tape (M : MoT) : Nat → Int32 := M.1.1.1.1.2
abbrev m_tape_ (M : MoT) (v : Nat → Int32) : MoT := (((((M.1.1.1.1.1, v), M.1.1.1.2), M.1.1.2), M.1.2), M.2)
abbrev m_taped (M : MoT) : Int32 := M.1.1.1.2.1
abbrev m_taped_ (M : MoT) (v : Int32) : MoT := ((((M.1.1.1.1, (v, M.1.1.1.2.2)), M.1.1.2), M.1.2), M.2)
abbrev m_place (M : MoT) : Nat → Int32 := M.1.1.1.2.2
abbrev m_place_ (M : MoT) (v : Nat → Int32) : MoT := ((((M.1.1.1.1, (M.1.1.1.2.1, v)), M.1.1.2), M.1.2), M.2)
abbrev m_sort (M : MoT) : Nat → Int32 := M.1.1.2.1.1
abbrev m_sort_ (M : MoT) (v : Nat → Int32) : MoT := (((M.1.1.1, ((v, M.1.1.2.1.2), M.1.1.2.2)), M.1.2), M.2)
abbrev m_many (M : MoT) : Nat → Int32 := M.1.1.2.1.2
abbrev m_many_ (M : MoT) (v : Nat → Int32) : MoT := (((M.1.1.1, ((M.1.1.2.1.1, v), M.1.1.2.2)), M.1.2), M.2)
abbrev m_bits (M : MoT) : Nat → Int32 := M.1.1.2.2
abbrev m_bits_ (M : MoT) (v : Nat → Int32) : MoT := (((M.1.1.1, (M.1.1.2.1, v)), M.1.2), M.2)
abbrev m_edges (M : MoT) : Nat → Int32 := M.1.2.1.1.1
abbrev m_edges_ (M : MoT) (v : Nat → Int32) : MoT := ((M.1.1, (((v, M.1.2.1.1.2), M.1.2.1.2), M.1.2.2)), M.2)
abbrev m_letters (M : MoT) : Nat → Int32 := M.1.2.1.1.2
abbrev m_letters_ (M : MoT) (v : Nat → Int32) : MoT := ((M.1.1, (((M.1.2.1.1.1, v), M.1.2.1.2), M.1.2.2)), M.2)
abbrev m_marks (M : MoT) : Nat → Int32 := M.1.2.1.2.1
abbrev m_marks_ (M : MoT) (v : Nat → Int32) : MoT := ((M.1.1, ((M.1.2.1.1, (v, M.1.2.1.2.2)), M.1.2.2)), M.2)
abbrev m_lost (M : MoT) : Nat → Int32 := M.1.2.1.2.2
abbrev m_lost_ (M : MoT) (v : Nat → Int32) : MoT := ((M.1.1, ((M.1.2.1.1, (M.1.2.1.2.1, v)), M.1.2.2)), M.2)
abbrev m_row (M : MoT) : Nat → Int32 := M.1.2.2.1.1
abbrev m_row_ (M : MoT) (v : Nat → Int32) : MoT := ((M.1.1, (M.1.2.1, ((v, M.1.2.2.1.2), M.1.2.2.2))), M.2)
abbrev m_size (M : MoT) : Nat → Int32 := M.1.2.2.1.2
abbrev m_size_ (M : MoT) (v : Nat → Int32) : MoT := ((M.1.1, (M.1.2.1, ((M.1.2.2.1.1, v), M.1.2.2.2))), M.2)
abbrev m_bytes (M : MoT) : Nat → Int32 := M.1.2.2.2
abbrev m_bytes_ (M : MoT) (v : Nat → Int32) : MoT := ((M.1.1, (M.1.2.1, (M.1.2.2.1, v))), M.2)
abbrev m_value (M : MoT) : Nat → Int64 := M.2.1.1.1.1
abbrev m_value_ (M : MoT) (v : Nat → Int64) : MoT := (M.1, ((((v, M.2.1.1.1.2), M.2.1.1.2), M.2.1.2), M.2.2))
abbrev m_name (M : MoT) : Nat → Int32 := M.2.1.1.1.2
abbrev m_name_ (M : MoT) (v : Nat → Int32) : MoT := (M.1, ((((M.2.1.1.1.1, v), M.2.1.1.2), M.2.1.2), M.2.2))
abbrev m_length (M : MoT) : Int32 := M.2.1.1.2.1
abbrev m_length_ (M : MoT) (v : Int32) : MoT := (M.1, (((M.2.1.1.1, (v, M.2.1.1.2.2)), M.2.1.2), M.2.2))
abbrev m_low (M : MoT) : Nat → Int32 := M.2.1.1.2.2
abbrev m_low_ (M : MoT) (v : Nat → Int32) : MoT := (M.1, (((M.2.1.1.1, (M.2.1.1.2.1, v)), M.2.1.2), M.2.2))
abbrev m_high (M : MoT) : Nat → Int32 := M.2.1.2.1.1
abbrev m_high_ (M : MoT) (v : Nat → Int32) : MoT := (M.1, ((M.2.1.1, ((v, M.2.1.2.1.2), M.2.1.2.2)), M.2.2))
abbrev m_deep (M : MoT) : Nat → Int32 := M.2.1.2.1.2
abbrev m_deep_ (M : MoT) (v : Nat → Int32) : MoT := (M.1, ((M.2.1.1, ((M.2.1.2.1.1, v), M.2.1.2.2)), M.2.2))
abbrev m_firstEdge (M : MoT) : Nat → Int32 := M.2.1.2.2
abbrev m_firstEdge_ (M : MoT) (v : Nat → Int32) : MoT := (M.1, ((M.2.1.1, (M.2.1.2.1, v)), M.2.2))
abbrev m_stringFrom (M : MoT) : Nat → Int32 := M.2.2.1.1.1
abbrev m_stringFrom_ (M : MoT) (v : Nat → Int32) : MoT := (M.1, (M.2.1, (((v, M.2.2.1.1.2), M.2.2.1.2), M.2.2.2)))
abbrev m_nodes (M : MoT) : Int32 := M.2.2.1.1.2
abbrev m_nodes_ (M : MoT) (v : Int32) : MoT := (M.1, (M.2.1, (((M.2.2.1.1.1, v), M.2.2.1.2), M.2.2.2)))
abbrev m_status (M : MoT) : Int32 := M.2.2.1.2.1
abbrev m_status_ (M : MoT) (v : Int32) : MoT := (M.1, (M.2.1, ((M.2.2.1.1, (v, M.2.2.1.2.2)), M.2.2.2)))
abbrev m_witness (M : MoT) : Nat → Int32 := M.2.2.1.2.2
abbrev m_witness_ (M : MoT) (v : Nat → Int32) : MoT := (M.1, (M.2.1, ((M.2.2.1.1, (M.2.2.1.2.1, v)), M.2.2.2)))
abbrev m_due (M : MoT) : Nat → Int32 := M.2.2.2.1.1
abbrev m_due_ (M : MoT) (v : Nat → Int32) : MoT := (M.1, (M.2.1, (M.2.2.1, ((v, M.2.2.2.1.2), M.2.2.2.2))))
abbrev m_witnessed (M : MoT) : Int32 := M.2.2.2.1.2
abbrev m_witnessed_ (M : MoT) (v : Int32) : MoT := (M.1, (M.2.1, (M.2.2.1, ((M.2.2.2.1.1, v), M.2.2.2.2))))
abbrev m_dues (M : MoT) : Int32 := M.2.2.2.2
abbrev m_dues_ (M : MoT) (v : Int32) : MoT := (M.1, (M.2.1, (M.2.2.1, (M.2.2.2.1, v))))
/-- what a cell at a would hold, kind by kind -/
def rowE (G : Gx) (S : PS) (a : Nat) : List va_E := [.inr (0, []), .inr (0, [.int (br_kind S a), va_rf (br_row S a)]), .inr (1, [va_rf (bi_alike S), va_rf (bi_first S), va_rf (bi_depth S), va_rf (bi_stem S), va_rf (bi_degree S), .int (bi_nodes S)]), .inr (2, [.int (bk_kind S a), va_rf (bk_list S a), va_rf (bk_row S a), .int (bk_edges S a), .int (bk_part S a), va_rf (bk_eb S a)]), .inr (3, [.int (dr_kind S a), va_rf (dr_list S a)]), .inr (4, [va_rf (ls_names S a), va_rf (ls_values S a), .int (ls_size S a)]), .inr (5, [va_rf (nm_bytes S a)]), .inr (6, [.int (rw_bits S a), va_rf (rw_words S a), va_rf (rw_ta S a), va_rf (rw_tb S a), .int (rw_la S a), .int (rw_lb S a), .int (rw_ones S a)]), .inr (7, [va_rf (tp_bytes S), .int (tp_used S)]), .inr (8, [va_rf (wi_numbers S a), .int (wi_size S a)]), .inr (9, [va_rf (ba_places S), va_rf (ba_reel S), va_rf (ba_shown S), va_rf (ba_asked S), va_rf (ba_binder S), va_rf (ba_pending S), .int (ba_refusal S)]), .inr (10, [va_rf (mo_r (mo S) 0), .int (m_taped (mo S)), va_rf (mo_r (mo S) 1), va_rf (mo_r (mo S) 2), va_rf (mo_r (mo S) 3), va_rf (mo_r (mo S) 4), va_rf (mo_r (mo S) 5), va_rf (mo_r (mo S) 6), va_rf (mo_r (mo S) 7), va_rf (mo_r (mo S) 8), va_rf (mo_r (mo S) 9), va_rf (mo_r (mo S) 10), va_rf (mo_r (mo S) 11), va_rf (mo_r (mo S) 12), va_rf (mo_r (mo S) 13), .int (m_length (mo S)), va_rf (mo_r (mo S) 14), va_rf (mo_r (mo S) 15), va_rf (mo_r (mo S) 16), va_rf (mo_r (mo S) 17), va_rf (mo_r (mo S) 18), .int (m_nodes (mo S)), .int (m_status (mo S)), va_rf (mo_r (mo S) 19), va_rf (mo_r (mo S) 20), .int (m_witnessed (mo S)), .int (m_dues (mo S))]), .inl (G.2.1 0, ln S a, .inl (nb_a S a)), .inl (G.2.1 0, ln S a, .inl (ta_a S a)), .inl (G.2.1 0, ln S a, .inl (tb_a S a)), .inl (G.2.1 0, ln S a, .inl (eb_a S a)), .inl (G.2.1 0, ln S a, .inl (wn_a S a)), .inl (G.2.1 1, ln S a, .inr (.inl (wd_a S a))), .inl (G.2.1 1, ln S a, .inr (.inl (vl_a S a))), .inl (G.2.1 3, ln S a, .inr (.inr (.inr (.inr (nr_a S a))))), .inl (G.2.1 4, 10, .inr (.inr (.inr (.inr (pl_a S))))), .inl (G.2.1 0, 1000, .inl (tp_a S)), .inl (G.2.1 0, 100, .inl (al_a S)), .inl (G.2.1 0, 2401, .inl (fi_a S)), .inl (G.2.1 0, 2401, .inl (de_a S)), .inl (G.2.1 0, 2401, .inl (st_a S)), .inl (G.2.1 0, 2401, .inl (dg_a S)), .inr (0, []), .inr (0, []), .inr (0, []), .inl (G.2.1 0, 1000, .inl (m_tape (mo S))), .inl (G.2.1 0, 10, .inl (m_place (mo S))), .inl (G.2.1 0, 12, .inl (m_sort (mo S))), .inl (G.2.1 0, 12, .inl (m_many (mo S))), .inl (G.2.1 0, 12, .inl (m_bits (mo S))), .inl (G.2.1 0, 12, .inl (m_edges (mo S))), .inl (G.2.1 0, 12, .inl (m_letters (mo S))), .inl (G.2.1 0, 12, .inl (m_marks (mo S))), .inl (G.2.1 2, 24, .inl (m_lost (mo S))), .inl (G.2.1 0, 58800, .inl (m_row (mo S))), .inl (G.2.1 0, 1200, .inl (m_size (mo S))), .inl (G.2.1 0, 28800, .inl (m_bytes (mo S))), .inl (G.2.1 1, 1200, .inr (.inl (m_value (mo S)))), .inl (G.2.1 0, 24, .inl (m_name (mo S))), .inl (G.2.1 0, 2500, .inl (m_low (mo S))), .inl (G.2.1 0, 2500, .inl (m_high (mo S))), .inl (G.2.1 0, 2500, .inl (m_deep (mo S))), .inl (G.2.1 0, 2500, .inl (m_firstEdge (mo S))), .inl (G.2.1 0, 2500, .inl (m_stringFrom (mo S))), .inl (G.2.1 0, 80, .inl (m_witness (mo S))), .inl (G.2.1 0, 80, .inl (m_due (mo S)))]
def pf (G : Gx) (S : PS) (a : Nat) : va_E := (rowE G S a).getD (kd S a) (.inr (0, []))
def isU (k : Nat) : Bool := [2, 8, 10, 11, 20, 21, 22, 23, 24, 25, 26, 30, 31, 32, 33, 34, 35, 36, 37, 38, 39, 40, 41, 42, 43, 44, 45, 46, 47, 48, 49, 50].contains k
abbrev Ab (G : Gx) : Nat → Prop := fun q => G.2.2 ≤ q
abbrev tyz (G : Gx) : List (ClassId × FieldType) := [(G.2.1 0, .int), (G.2.1 1, .long), (G.2.1 2, .boolean), (G.2.1 3, .object "BitAlmanac$Name"), (G.2.1 4, .object "BitAlmanac$Thing")]
/-- the heap holds the pure state -/
def Rep (G : Gx) (S : PS) (H : Heap) : Prop := va_P G.1 vwCl (va_pl (La S) (pf G S)) H ∧ va_D (Ab G) (va_pl (La S) (pf G S)) ∧ (∀ a, kd S a ≠ 0 ↔ a ∈ La S) ∧ (∀ a b, kd S a = kd S b → isU (kd S a) = true → a = b) ∧ G.2.2 ≤ H.size
theorem pf_1 {G : Gx} {S : PS} {a : Nat} (h : kd S a = 1) : pf G S a = .inr (0, [.int (br_kind S a), va_rf (br_row S a)]) := by unfold pf; rw [h]; rfl
theorem pf_2 {G : Gx} {S : PS} {a : Nat} (h : kd S a = 2) : pf G S a = .inr (1, [va_rf (bi_alike S), va_rf (bi_first S), va_rf (bi_depth S), va_rf (bi_stem S), va_rf (bi_degree S), .int (bi_nodes S)]) := by unfold pf; rw [h]; rfl
theorem pf_3 {G : Gx} {S : PS} {a : Nat} (h : kd S a = 3) : pf G S a = .inr (2, [.int (bk_kind S a), va_rf (bk_list S a), va_rf (bk_row S a), .int (bk_edges S a), .int (bk_part S a), va_rf (bk_eb S a)]) := by unfold pf; rw [h]; rfl
theorem pf_4 {G : Gx} {S : PS} {a : Nat} (h : kd S a = 4) : pf G S a = .inr (3, [.int (dr_kind S a), va_rf (dr_list S a)]) := by unfold pf; rw [h]; rfl
theorem pf_5 {G : Gx} {S : PS} {a : Nat} (h : kd S a = 5) : pf G S a = .inr (4, [va_rf (ls_names S a), va_rf (ls_values S a), .int (ls_size S a)]) := by unfold pf; rw [h]; rfl
theorem pf_6 {G : Gx} {S : PS} {a : Nat} (h : kd S a = 6) : pf G S a = .inr (5, [va_rf (nm_bytes S a)]) := by unfold pf; rw [h]; rfl
theorem pf_7 {G : Gx} {S : PS} {a : Nat} (h : kd S a = 7) : pf G S a = .inr (6, [.int (rw_bits S a), va_rf (rw_words S a), va_rf (rw_ta S a), va_rf (rw_tb S a), .int (rw_la S a), .int (rw_lb S a), .int (rw_ones S a)]) := by unfold pf; rw [h]; rfl
theorem pf_8 {G : Gx} {S : PS} {a : Nat} (h : kd S a = 8) : pf G S a = .inr (7, [va_rf (tp_bytes S), .int (tp_used S)]) := by unfold pf; rw [h]; rfl
theorem pf_9 {G : Gx} {S : PS} {a : Nat} (h : kd S a = 9) : pf G S a = .inr (8, [va_rf (wi_numbers S a), .int (wi_size S a)]) := by unfold pf; rw [h]; rfl
theorem pf_10 {G : Gx} {S : PS} {a : Nat} (h : kd S a = 10) : pf G S a = .inr (9, [va_rf (ba_places S), va_rf (ba_reel S), va_rf (ba_shown S), va_rf (ba_asked S), va_rf (ba_binder S), va_rf (ba_pending S), .int (ba_refusal S)]) := by unfold pf; rw [h]; rfl
theorem pf_11 {G : Gx} {S : PS} {a : Nat} (h : kd S a = 11) : pf G S a = .inr (10, [va_rf (mo_r (mo S) 0), .int (m_taped (mo S)), va_rf (mo_r (mo S) 1), va_rf (mo_r (mo S) 2), va_rf (mo_r (mo S) 3), va_rf (mo_r (mo S) 4), va_rf (mo_r (mo S) 5), va_rf (mo_r (mo S) 6), va_rf (mo_r (mo S) 7), va_rf (mo_r (mo S) 8), va_rf (mo_r (mo S) 9), va_rf (mo_r (mo S) 10), va_rf (mo_r (mo S) 11), va_rf (mo_r (mo S) 12), va_rf (mo_r (mo S) 13), .int (m_length (mo S)), va_rf (mo_r (mo S) 14), va_rf (mo_r (mo S) 15), va_rf (mo_r (mo S) 16), va_rf (mo_r (mo S) 17), va_rf (mo_r (mo S) 18), .int (m_nodes (mo S)), .int (m_status (mo S)), va_rf (mo_r (mo S) 19), va_rf (mo_r (mo S) 20), .int (m_witnessed (mo S)), .int (m_dues (mo S))]) := by unfold pf; rw [h]; rfl
theorem pf_12 {G : Gx} {S : PS} {a : Nat} (h : kd S a = 12) : pf G S a = .inl (G.2.1 0, ln S a, .inl (nb_a S a)) := by unfold pf; rw [h]; rfl
theorem pf_13 {G : Gx} {S : PS} {a : Nat} (h : kd S a = 13) : pf G S a = .inl (G.2.1 0, ln S a, .inl (ta_a S a)) := by unfold pf; rw [h]; rfl
theorem pf_14 {G : Gx} {S : PS} {a : Nat} (h : kd S a = 14) : pf G S a = .inl (G.2.1 0, ln S a, .inl (tb_a S a)) := by unfold pf; rw [h]; rfl
theorem pf_15 {G : Gx} {S : PS} {a : Nat} (h : kd S a = 15) : pf G S a = .inl (G.2.1 0, ln S a, .inl (eb_a S a)) := by unfold pf; rw [h]; rfl
theorem pf_16 {G : Gx} {S : PS} {a : Nat} (h : kd S a = 16) : pf G S a = .inl (G.2.1 0, ln S a, .inl (wn_a S a)) := by unfold pf; rw [h]; rfl
theorem pf_17 {G : Gx} {S : PS} {a : Nat} (h : kd S a = 17) : pf G S a = .inl (G.2.1 1, ln S a, .inr (.inl (wd_a S a))) := by unfold pf; rw [h]; rfl
theorem pf_18 {G : Gx} {S : PS} {a : Nat} (h : kd S a = 18) : pf G S a = .inl (G.2.1 1, ln S a, .inr (.inl (vl_a S a))) := by unfold pf; rw [h]; rfl
theorem pf_19 {G : Gx} {S : PS} {a : Nat} (h : kd S a = 19) : pf G S a = .inl (G.2.1 3, ln S a, .inr (.inr (.inr (.inr (nr_a S a))))) := by unfold pf; rw [h]; rfl
theorem pf_20 {G : Gx} {S : PS} {a : Nat} (h : kd S a = 20) : pf G S a = .inl (G.2.1 4, 10, .inr (.inr (.inr (.inr (pl_a S))))) := by unfold pf; rw [h]; rfl
theorem pf_21 {G : Gx} {S : PS} {a : Nat} (h : kd S a = 21) : pf G S a = .inl (G.2.1 0, 1000, .inl (tp_a S)) := by unfold pf; rw [h]; rfl
theorem pf_22 {G : Gx} {S : PS} {a : Nat} (h : kd S a = 22) : pf G S a = .inl (G.2.1 0, 100, .inl (al_a S)) := by unfold pf; rw [h]; rfl
theorem pf_23 {G : Gx} {S : PS} {a : Nat} (h : kd S a = 23) : pf G S a = .inl (G.2.1 0, 2401, .inl (fi_a S)) := by unfold pf; rw [h]; rfl
theorem pf_24 {G : Gx} {S : PS} {a : Nat} (h : kd S a = 24) : pf G S a = .inl (G.2.1 0, 2401, .inl (de_a S)) := by unfold pf; rw [h]; rfl
theorem pf_25 {G : Gx} {S : PS} {a : Nat} (h : kd S a = 25) : pf G S a = .inl (G.2.1 0, 2401, .inl (st_a S)) := by unfold pf; rw [h]; rfl
theorem pf_26 {G : Gx} {S : PS} {a : Nat} (h : kd S a = 26) : pf G S a = .inl (G.2.1 0, 2401, .inl (dg_a S)) := by unfold pf; rw [h]; rfl
theorem pf_30 {G : Gx} {S : PS} {a : Nat} (h : kd S a = 30) : pf G S a = .inl (G.2.1 0, 1000, .inl (m_tape (mo S))) := by unfold pf; rw [h]; rfl
theorem pf_31 {G : Gx} {S : PS} {a : Nat} (h : kd S a = 31) : pf G S a = .inl (G.2.1 0, 10, .inl (m_place (mo S))) := by unfold pf; rw [h]; rfl
theorem pf_32 {G : Gx} {S : PS} {a : Nat} (h : kd S a = 32) : pf G S a = .inl (G.2.1 0, 12, .inl (m_sort (mo S))) := by unfold pf; rw [h]; rfl
theorem pf_33 {G : Gx} {S : PS} {a : Nat} (h : kd S a = 33) : pf G S a = .inl (G.2.1 0, 12, .inl (m_many (mo S))) := by unfold pf; rw [h]; rfl
theorem pf_34 {G : Gx} {S : PS} {a : Nat} (h : kd S a = 34) : pf G S a = .inl (G.2.1 0, 12, .inl (m_bits (mo S))) := by unfold pf; rw [h]; rfl
theorem pf_35 {G : Gx} {S : PS} {a : Nat} (h : kd S a = 35) : pf G S a = .inl (G.2.1 0, 12, .inl (m_edges (mo S))) := by unfold pf; rw [h]; rfl
theorem pf_36 {G : Gx} {S : PS} {a : Nat} (h : kd S a = 36) : pf G S a = .inl (G.2.1 0, 12, .inl (m_letters (mo S))) := by unfold pf; rw [h]; rfl
theorem pf_37 {G : Gx} {S : PS} {a : Nat} (h : kd S a = 37) : pf G S a = .inl (G.2.1 0, 12, .inl (m_marks (mo S))) := by unfold pf; rw [h]; rfl
theorem pf_38 {G : Gx} {S : PS} {a : Nat} (h : kd S a = 38) : pf G S a = .inl (G.2.1 2, 24, .inl (m_lost (mo S))) := by unfold pf; rw [h]; rfl
theorem pf_39 {G : Gx} {S : PS} {a : Nat} (h : kd S a = 39) : pf G S a = .inl (G.2.1 0, 58800, .inl (m_row (mo S))) := by unfold pf; rw [h]; rfl
theorem pf_40 {G : Gx} {S : PS} {a : Nat} (h : kd S a = 40) : pf G S a = .inl (G.2.1 0, 1200, .inl (m_size (mo S))) := by unfold pf; rw [h]; rfl
theorem pf_41 {G : Gx} {S : PS} {a : Nat} (h : kd S a = 41) : pf G S a = .inl (G.2.1 0, 28800, .inl (m_bytes (mo S))) := by unfold pf; rw [h]; rfl
theorem pf_42 {G : Gx} {S : PS} {a : Nat} (h : kd S a = 42) : pf G S a = .inl (G.2.1 1, 1200, .inr (.inl (m_value (mo S)))) := by unfold pf; rw [h]; rfl
theorem pf_43 {G : Gx} {S : PS} {a : Nat} (h : kd S a = 43) : pf G S a = .inl (G.2.1 0, 24, .inl (m_name (mo S))) := by unfold pf; rw [h]; rfl
theorem pf_44 {G : Gx} {S : PS} {a : Nat} (h : kd S a = 44) : pf G S a = .inl (G.2.1 0, 2500, .inl (m_low (mo S))) := by unfold pf; rw [h]; rfl
theorem pf_45 {G : Gx} {S : PS} {a : Nat} (h : kd S a = 45) : pf G S a = .inl (G.2.1 0, 2500, .inl (m_high (mo S))) := by unfold pf; rw [h]; rfl
theorem pf_46 {G : Gx} {S : PS} {a : Nat} (h : kd S a = 46) : pf G S a = .inl (G.2.1 0, 2500, .inl (m_deep (mo S))) := by unfold pf; rw [h]; rfl
theorem pf_47 {G : Gx} {S : PS} {a : Nat} (h : kd S a = 47) : pf G S a = .inl (G.2.1 0, 2500, .inl (m_firstEdge (mo S))) := by unfold pf; rw [h]; rfl
theorem pf_48 {G : Gx} {S : PS} {a : Nat} (h : kd S a = 48) : pf G S a = .inl (G.2.1 0, 2500, .inl (m_stringFrom (mo S))) := by unfold pf; rw [h]; rfl
theorem pf_49 {G : Gx} {S : PS} {a : Nat} (h : kd S a = 49) : pf G S a = .inl (G.2.1 0, 80, .inl (m_witness (mo S))) := by unfold pf; rw [h]; rfl
theorem pf_50 {G : Gx} {S : PS} {a : Nat} (h : kd S a = 50) : pf G S a = .inl (G.2.1 0, 80, .inl (m_due (mo S))) := by unfold pf; rw [h]; rfl
theorem pf_upI {G : Gx} {S S' : PS} {a u : Nat} {e : va_E} (hk : kd S' = kd S) (ha : kd S a = u) (hr : ∀ b, b ≠ a → rowE G S' b = rowE G S b) (he : (rowE G S' a).getD u (.inr (0, [])) = e) : ∀ b, va_up (pf G S) a e b = pf G S' b := by
  intro b
  by_cases hb : b = a
  · subst hb
    rw [va_up_self]
    unfold pf
    rw [hk, ha]
    exact he.symm
  · rw [va_up_ne _ _ hb]
    unfold pf
    rw [hk, hr b hb]
theorem pf_upU {G : Gx} {S S' : PS} {a u : Nat} {e : va_E} (hk : kd S' = kd S) (ha : kd S a = u) (hu : ∀ b, kd S b = u → b = a) (hr : ∀ b, ∃ x, rowE G S' b = (rowE G S b).set u x) (he : (rowE G S' a).getD u (.inr (0, [])) = e) : ∀ b, va_up (pf G S) a e b = pf G S' b := by
  intro b
  by_cases hb : b = a
  · subst hb
    rw [va_up_self]
    unfold pf
    rw [hk, ha]
    exact he.symm
  · rw [va_up_ne _ _ hb]
    unfold pf
    obtain ⟨x, hx⟩ := hr b
    have hne : u ≠ kd S b := fun q => hb (hu b q.symm)
    rw [hk, hx, List.getD_eq_getElem?_getD, List.getD_eq_getElem?_getD, List.getElem?_set_ne hne]
