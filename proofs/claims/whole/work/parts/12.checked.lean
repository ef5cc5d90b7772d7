/-! each class and each method of the tables, checked -/
set_option maxRecDepth 100000 in
theorem okC_Net : j_okC (R_Net, T_Net, 9) := j_okC_of (by decide +kernel) (by decide +kernel) (by decide +kernel)
set_option maxRecDepth 100000 in
theorem okC_Router : j_okC (R_Router, T_Router, 4) := j_okC_of (by decide +kernel) (by decide +kernel) (by decide +kernel)
set_option maxRecDepth 100000 in
theorem okC_Link : j_okC (R_Link, T_Link, 7) := j_okC_of (by decide +kernel) (by decide +kernel) (by decide +kernel)
set_option maxRecDepth 100000 in
theorem okC_Lane : j_okC (R_Lane, T_Lane, 3) := j_okC_of (by decide +kernel) (by decide +kernel) (by decide +kernel)
set_option maxRecDepth 100000 in
theorem okC_Advert : j_okC (R_Advert, T_Advert, 4) := j_okC_of (by decide +kernel) (by decide +kernel) (by decide +kernel)
set_option maxRecDepth 100000 in
theorem okC_Chart : j_okC (R_Chart, T_Chart, 3) := j_okC_of (by decide +kernel) (by decide +kernel) (by decide +kernel)
set_option maxRecDepth 100000 in
theorem okC_Packet : j_okC (R_Packet, T_Packet, 3) := j_okC_of (by decide +kernel) (by decide +kernel) (by decide +kernel)
set_option maxRecDepth 100000 in
theorem okC_Piece : j_okC (R_Piece, T_Piece, 6) := j_okC_of (by decide +kernel) (by decide +kernel) (by decide +kernel)
set_option maxRecDepth 100000 in
theorem okC_Ref : j_okC (R_Ref, T_Ref, 25) := j_okC_of (by decide +kernel) (by decide +kernel) (by decide +kernel)
theorem okC_all : ∀ (ci : Nat) (q : vw_C), jcl[ci]? = some q → j_okC q := by
  intro ci q h
  match ci, h with
  | 0, h => cases h; exact okC_Net
  | 1, h => cases h; exact okC_Router
  | 2, h => cases h; exact okC_Link
  | 3, h => cases h; exact okC_Lane
  | 4, h => cases h; exact okC_Advert
  | 5, h => cases h; exact okC_Chart
  | 6, h => cases h; exact okC_Packet
  | 7, h => cases h; exact okC_Piece
  | 8, h => cases h; exact okC_Ref
  | k + 9, h => simp [jcl] at h
set_option maxRecDepth 100000 in
theorem ok_Net_init : j_okT m_Net_init := j_okT_of P_Net_init okC_all (by decide +kernel)
set_option maxRecDepth 100000 in
theorem ok_Chart_init : j_okT m_Chart_init := j_okT_of P_Chart_init okC_all (by decide +kernel)
set_option maxRecDepth 100000 in
theorem ok_Math_min : j_okT m_Math_min := j_okT_of P_Math_min okC_all (by decide +kernel)
set_option maxRecDepth 100000 in
theorem ok_Math_max : j_okT m_Math_max := j_okT_of P_Math_max okC_all (by decide +kernel)
set_option maxRecDepth 100000 in
theorem ok_Router_init : j_okT m_Router_init := j_okT_of P_Router_init okC_all (by decide +kernel)
set_option maxRecDepth 100000 in
theorem ok_Net_lay : j_okT m_Net_lay := j_okT_of P_Net_lay okC_all (by decide +kernel)
set_option maxRecDepth 100000 in
theorem ok_Net_isRouter : j_okT m_Net_isRouter := j_okT_of P_Net_isRouter okC_all (by decide +kernel)
set_option maxRecDepth 100000 in
theorem ok_Net_isWithin : j_okT m_Net_isWithin := j_okT_of P_Net_isWithin okC_all (by decide +kernel)
set_option maxRecDepth 100000 in
theorem ok_Link_init : j_okT m_Link_init := j_okT_of P_Link_init okC_all (by decide +kernel)
set_option maxRecDepth 100000 in
theorem ok_Lane_init : j_okT m_Lane_init := j_okT_of P_Lane_init okC_all (by decide +kernel)
set_option maxRecDepth 100000 in
theorem ok_Net_bringUp : j_okT m_Net_bringUp := j_okT_of P_Net_bringUp okC_all (by decide +kernel)
set_option maxRecDepth 100000 in
theorem ok_Net_tell : j_okT m_Net_tell := j_okT_of P_Net_tell okC_all (by decide +kernel)
set_option maxRecDepth 100000 in
theorem ok_Net_upLinksOf : j_okT m_Net_upLinksOf := j_okT_of P_Net_upLinksOf okC_all (by decide +kernel)
set_option maxRecDepth 100000 in
theorem ok_Link_touches : j_okT m_Link_touches := j_okT_of P_Link_touches okC_all (by decide +kernel)
set_option maxRecDepth 100000 in
theorem ok_Router_makeAdvert : j_okT m_Router_makeAdvert := j_okT_of P_Router_makeAdvert okC_all (by decide +kernel)
set_option maxRecDepth 100000 in
theorem ok_Arrays_copyOf : j_okT m_Arrays_copyOf := j_okT_of P_Arrays_copyOf okC_all (by decide +kernel)
set_option maxRecDepth 100000 in
theorem ok_Advert_init : j_okT m_Advert_init := j_okT_of P_Advert_init okC_all (by decide +kernel)
set_option maxRecDepth 100000 in
theorem ok_Net_flood : j_okT m_Net_flood := j_okT_of P_Net_flood okC_all (by decide +kernel)
set_option maxRecDepth 100000 in
theorem ok_Link_laneFrom : j_okT m_Link_laneFrom := j_okT_of P_Link_laneFrom okC_all (by decide +kernel)
set_option maxRecDepth 100000 in
theorem ok_Lane_put : j_okT m_Lane_put := j_okT_of P_Lane_put okC_all (by decide +kernel)
set_option maxRecDepth 100000 in
theorem ok_Net_exchange : j_okT m_Net_exchange := j_okT_of P_Net_exchange okC_all (by decide +kernel)
set_option maxRecDepth 100000 in
theorem ok_Lane_putAll : j_okT m_Lane_putAll := j_okT_of P_Lane_putAll okC_all (by decide +kernel)
set_option maxRecDepth 100000 in
theorem ok_Net_cut : j_okT m_Net_cut := j_okT_of P_Net_cut okC_all (by decide +kernel)
set_option maxRecDepth 100000 in
theorem ok_Net_isLink : j_okT m_Net_isLink := j_okT_of P_Net_isLink okC_all (by decide +kernel)
set_option maxRecDepth 100000 in
theorem ok_Lane_clear : j_okT m_Lane_clear := j_okT_of P_Lane_clear okC_all (by decide +kernel)
set_option maxRecDepth 100000 in
theorem ok_Net_mend : j_okT m_Net_mend := j_okT_of P_Net_mend okC_all (by decide +kernel)
set_option maxRecDepth 100000 in
theorem ok_Net_share : j_okT m_Net_share := j_okT_of P_Net_share okC_all (by decide +kernel)
set_option maxRecDepth 100000 in
theorem ok_Net_announce : j_okT m_Net_announce := j_okT_of P_Net_announce okC_all (by decide +kernel)
set_option maxRecDepth 100000 in
theorem ok_Net_isAddress : j_okT m_Net_isAddress := j_okT_of P_Net_isAddress okC_all (by decide +kernel)
set_option maxRecDepth 100000 in
theorem ok_Prefix_of : j_okT m_Prefix_of := j_okT_of P_Prefix_of okC_all (by decide +kernel)
set_option maxRecDepth 100000 in
theorem ok_Prefix_mask : j_okT m_Prefix_mask := j_okT_of P_Prefix_mask okC_all (by decide +kernel)
set_option maxRecDepth 100000 in
theorem ok_Router_owns : j_okT m_Router_owns := j_okT_of P_Router_owns okC_all (by decide +kernel)
set_option maxRecDepth 100000 in
theorem ok_Net_withdraw : j_okT m_Net_withdraw := j_okT_of P_Net_withdraw okC_all (by decide +kernel)
set_option maxRecDepth 100000 in
theorem ok_Router_removeOwn : j_okT m_Router_removeOwn := j_okT_of P_Router_removeOwn okC_all (by decide +kernel)
set_option maxRecDepth 100000 in
theorem ok_Net_take : j_okT m_Net_take := j_okT_of P_Net_take okC_all (by decide +kernel)
set_option maxRecDepth 100000 in
theorem ok_Net_isLane : j_okT m_Net_isLane := j_okT_of P_Net_isLane okC_all (by decide +kernel)
set_option maxRecDepth 100000 in
theorem ok_Link_lane : j_okT m_Link_lane := j_okT_of P_Link_lane okC_all (by decide +kernel)
set_option maxRecDepth 100000 in
theorem ok_Lane_removeOldest : j_okT m_Lane_removeOldest := j_okT_of P_Lane_removeOldest okC_all (by decide +kernel)
set_option maxRecDepth 100000 in
theorem ok_Link_target : j_okT m_Link_target := j_okT_of P_Link_target okC_all (by decide +kernel)
set_option maxRecDepth 100000 in
theorem ok_Net_receive : j_okT m_Net_receive := j_okT_of P_Net_receive okC_all (by decide +kernel)
set_option maxRecDepth 100000 in
theorem ok_Net_lose : j_okT m_Net_lose := j_okT_of P_Net_lose okC_all (by decide +kernel)
set_option maxRecDepth 100000 in
theorem ok_Net_send : j_okT m_Net_send := j_okT_of P_Net_send okC_all (by decide +kernel)
set_option maxRecDepth 100000 in
theorem ok_Packet_init : j_okT m_Packet_init := j_okT_of P_Packet_init okC_all (by decide +kernel)
set_option maxRecDepth 100000 in
theorem ok_Piece_init : j_okT m_Piece_init := j_okT_of P_Piece_init okC_all (by decide +kernel)
set_option maxRecDepth 100000 in
theorem ok_Net_addPiece : j_okT m_Net_addPiece := j_okT_of P_Net_addPiece okC_all (by decide +kernel)
set_option maxRecDepth 100000 in
theorem ok_Net_go : j_okT m_Net_go := j_okT_of P_Net_go okC_all (by decide +kernel)
set_option maxRecDepth 100000 in
theorem ok_Net_isMoving : j_okT m_Net_isMoving := j_okT_of P_Net_isMoving okC_all (by decide +kernel)
set_option maxRecDepth 100000 in
theorem ok_Net_isPiece : j_okT m_Net_isPiece := j_okT_of P_Net_isPiece okC_all (by decide +kernel)
set_option maxRecDepth 100000 in
theorem ok_Net_findRoute : j_okT m_Net_findRoute := j_okT_of P_Net_findRoute okC_all (by decide +kernel)
set_option maxRecDepth 100000 in
theorem ok_Chart_survey : j_okT m_Chart_survey := j_okT_of P_Chart_survey okC_all (by decide +kernel)
set_option maxRecDepth 100000 in
theorem ok_Advert_hasLink : j_okT m_Advert_hasLink := j_okT_of P_Advert_hasLink okC_all (by decide +kernel)
set_option maxRecDepth 100000 in
theorem ok_Chart_measure : j_okT m_Chart_measure := j_okT_of P_Chart_measure okC_all (by decide +kernel)
set_option maxRecDepth 100000 in
theorem ok_Arrays_fill : j_okT m_Arrays_fill := j_okT_of P_Arrays_fill okC_all (by decide +kernel)
set_option maxRecDepth 100000 in
theorem ok_Chart_shorten : j_okT m_Chart_shorten := j_okT_of P_Chart_shorten okC_all (by decide +kernel)
set_option maxRecDepth 100000 in
theorem ok_Chart_findEnd : j_okT m_Chart_findEnd := j_okT_of P_Chart_findEnd okC_all (by decide +kernel)
set_option maxRecDepth 100000 in
theorem ok_Advert_longestMatch : j_okT m_Advert_longestMatch := j_okT_of P_Advert_longestMatch okC_all (by decide +kernel)
set_option maxRecDepth 100000 in
theorem ok_Prefix_covers : j_okT m_Prefix_covers := j_okT_of P_Prefix_covers okC_all (by decide +kernel)
set_option maxRecDepth 100000 in
theorem ok_Prefix_lengthOf : j_okT m_Prefix_lengthOf := j_okT_of P_Prefix_lengthOf okC_all (by decide +kernel)
set_option maxRecDepth 100000 in
theorem ok_Chart_firstLinkToward : j_okT m_Chart_firstLinkToward := j_okT_of P_Chart_firstLinkToward okC_all (by decide +kernel)
set_option maxRecDepth 100000 in
theorem ok_Link_otherEnd : j_okT m_Link_otherEnd := j_okT_of P_Link_otherEnd okC_all (by decide +kernel)
set_option maxRecDepth 100000 in
theorem ok_Packet_markEnded : j_okT m_Packet_markEnded := j_okT_of P_Packet_markEnded okC_all (by decide +kernel)
set_option maxRecDepth 100000 in
theorem ok_Packet_word : j_okT m_Packet_word := j_okT_of P_Packet_word okC_all (by decide +kernel)
set_option maxRecDepth 100000 in
theorem ok_Net_settle : j_okT m_Net_settle := j_okT_of P_Net_settle okC_all (by decide +kernel)
set_option maxRecDepth 100000 in
theorem ok_Net_cross : j_okT m_Net_cross := j_okT_of P_Net_cross okC_all (by decide +kernel)
set_option maxRecDepth 100000 in
theorem ok_Net_split : j_okT m_Net_split := j_okT_of P_Net_split okC_all (by decide +kernel)
set_option maxRecDepth 100000 in
theorem ok_Piece_part : j_okT m_Piece_part := j_okT_of P_Piece_part okC_all (by decide +kernel)
set_option maxRecDepth 100000 in
theorem ok_Net_drop : j_okT m_Net_drop := j_okT_of P_Net_drop okC_all (by decide +kernel)
set_option maxRecDepth 100000 in
theorem ok_Net_copy : j_okT m_Net_copy := j_okT_of P_Net_copy okC_all (by decide +kernel)
set_option maxRecDepth 100000 in
theorem ok_Net_route : j_okT m_Net_route := j_okT_of P_Net_route okC_all (by decide +kernel)
set_option maxRecDepth 100000 in
theorem ok_Net_distance : j_okT m_Net_distance := j_okT_of P_Net_distance okC_all (by decide +kernel)
set_option maxRecDepth 100000 in
theorem ok_Net_held : j_okT m_Net_held := j_okT_of P_Net_held okC_all (by decide +kernel)
set_option maxRecDepth 100000 in
theorem ok_Net_waiting : j_okT m_Net_waiting := j_okT_of P_Net_waiting okC_all (by decide +kernel)
set_option maxRecDepth 100000 in
theorem ok_Net_piece : j_okT m_Net_piece := j_okT_of P_Net_piece okC_all (by decide +kernel)
set_option maxRecDepth 100000 in
theorem ok_Net_ended : j_okT m_Net_ended := j_okT_of P_Net_ended okC_all (by decide +kernel)
set_option maxRecDepth 100000 in
theorem ok_Net_isPacket : j_okT m_Net_isPacket := j_okT_of P_Net_isPacket okC_all (by decide +kernel)
set_option maxRecDepth 100000 in
theorem ok_Packet_countEnded : j_okT m_Packet_countEnded := j_okT_of P_Packet_countEnded okC_all (by decide +kernel)
set_option maxRecDepth 100000 in
theorem ok_Long_bitCount : j_okT m_Long_bitCount := j_okT_of P_Long_bitCount okC_all (by decide +kernel)
set_option maxRecDepth 100000 in
theorem ok_Net_arrived : j_okT m_Net_arrived := j_okT_of P_Net_arrived okC_all (by decide +kernel)
set_option maxRecDepth 100000 in
theorem ok_Packet_hasEnded : j_okT m_Packet_hasEnded := j_okT_of P_Packet_hasEnded okC_all (by decide +kernel)
set_option maxRecDepth 100000 in
theorem ok_Law_cell : j_okT m_Law_cell := j_okT_of P_Law_cell okC_all (by decide +kernel)
set_option maxRecDepth 100000 in
theorem ok_Ref_init : j_okT m_Ref_init := j_okT_of P_Ref_init okC_all (by decide +kernel)
set_option maxRecDepth 100000 in
theorem ok_Ref_lay : j_okT m_Ref_lay := j_okT_of P_Ref_lay okC_all (by decide +kernel)
set_option maxRecDepth 100000 in
theorem ok_Ref_in : j_okT m_Ref_in := j_okT_of P_Ref_in okC_all (by decide +kernel)
set_option maxRecDepth 100000 in
theorem ok_Ref_raise : j_okT m_Ref_raise := j_okT_of P_Ref_raise okC_all (by decide +kernel)
set_option maxRecDepth 100000 in
theorem ok_Ref_tell : j_okT m_Ref_tell := j_okT_of P_Ref_tell okC_all (by decide +kernel)
set_option maxRecDepth 100000 in
theorem ok_Ref_spread : j_okT m_Ref_spread := j_okT_of P_Ref_spread okC_all (by decide +kernel)
set_option maxRecDepth 100000 in
theorem ok_Ref_put : j_okT m_Ref_put := j_okT_of P_Ref_put okC_all (by decide +kernel)
set_option maxRecDepth 100000 in
theorem ok_Ref_shareBoth : j_okT m_Ref_shareBoth := j_okT_of P_Ref_shareBoth okC_all (by decide +kernel)
set_option maxRecDepth 100000 in
theorem ok_Ref_cut : j_okT m_Ref_cut := j_okT_of P_Ref_cut okC_all (by decide +kernel)
set_option maxRecDepth 100000 in
theorem ok_Ref_badLink : j_okT m_Ref_badLink := j_okT_of P_Ref_badLink okC_all (by decide +kernel)
set_option maxRecDepth 100000 in
theorem ok_Ref_mend : j_okT m_Ref_mend := j_okT_of P_Ref_mend okC_all (by decide +kernel)
set_option maxRecDepth 100000 in
theorem ok_Ref_share : j_okT m_Ref_share := j_okT_of P_Ref_share okC_all (by decide +kernel)
set_option maxRecDepth 100000 in
theorem ok_Ref_announce : j_okT m_Ref_announce := j_okT_of P_Ref_announce okC_all (by decide +kernel)
set_option maxRecDepth 100000 in
theorem ok_Ref_withdraw : j_okT m_Ref_withdraw := j_okT_of P_Ref_withdraw okC_all (by decide +kernel)
set_option maxRecDepth 100000 in
theorem ok_Ref_take : j_okT m_Ref_take := j_okT_of P_Ref_take okC_all (by decide +kernel)
set_option maxRecDepth 100000 in
theorem ok_Ref_badRow : j_okT m_Ref_badRow := j_okT_of P_Ref_badRow okC_all (by decide +kernel)
set_option maxRecDepth 100000 in
theorem ok_Ref_oldest : j_okT m_Ref_oldest := j_okT_of P_Ref_oldest okC_all (by decide +kernel)
set_option maxRecDepth 100000 in
theorem ok_Ref_lose : j_okT m_Ref_lose := j_okT_of P_Ref_lose okC_all (by decide +kernel)
set_option maxRecDepth 100000 in
theorem ok_Ref_send : j_okT m_Ref_send := j_okT_of P_Ref_send okC_all (by decide +kernel)
set_option maxRecDepth 100000 in
theorem ok_Ref_addPiece : j_okT m_Ref_addPiece := j_okT_of P_Ref_addPiece okC_all (by decide +kernel)
set_option maxRecDepth 100000 in
theorem ok_Ref_go : j_okT m_Ref_go := j_okT_of P_Ref_go okC_all (by decide +kernel)
set_option maxRecDepth 100000 in
theorem ok_Ref_still : j_okT m_Ref_still := j_okT_of P_Ref_still okC_all (by decide +kernel)
set_option maxRecDepth 100000 in
theorem ok_Ref_routeOf : j_okT m_Ref_routeOf := j_okT_of P_Ref_routeOf okC_all (by decide +kernel)
set_option maxRecDepth 100000 in
theorem ok_Ref_endOf : j_okT m_Ref_endOf := j_okT_of P_Ref_endOf okC_all (by decide +kernel)
set_option maxRecDepth 100000 in
theorem ok_Ref_measure : j_okT m_Ref_measure := j_okT_of P_Ref_measure okC_all (by decide +kernel)
set_option maxRecDepth 100000 in
theorem ok_Ref_good : j_okT m_Ref_good := j_okT_of P_Ref_good okC_all (by decide +kernel)
set_option maxRecDepth 100000 in
theorem ok_Ref_longest : j_okT m_Ref_longest := j_okT_of P_Ref_longest okC_all (by decide +kernel)
set_option maxRecDepth 100000 in
theorem ok_Ref_fate : j_okT m_Ref_fate := j_okT_of P_Ref_fate okC_all (by decide +kernel)
set_option maxRecDepth 100000 in
theorem ok_Ref_drop : j_okT m_Ref_drop := j_okT_of P_Ref_drop okC_all (by decide +kernel)
set_option maxRecDepth 100000 in
theorem ok_Ref_copy : j_okT m_Ref_copy := j_okT_of P_Ref_copy okC_all (by decide +kernel)
set_option maxRecDepth 100000 in
theorem ok_Ref_route : j_okT m_Ref_route := j_okT_of P_Ref_route okC_all (by decide +kernel)
set_option maxRecDepth 100000 in
theorem ok_Ref_distance : j_okT m_Ref_distance := j_okT_of P_Ref_distance okC_all (by decide +kernel)
set_option maxRecDepth 100000 in
theorem ok_Ref_held : j_okT m_Ref_held := j_okT_of P_Ref_held okC_all (by decide +kernel)
set_option maxRecDepth 100000 in
theorem ok_Ref_waiting : j_okT m_Ref_waiting := j_okT_of P_Ref_waiting okC_all (by decide +kernel)
set_option maxRecDepth 100000 in
theorem ok_Ref_piece : j_okT m_Ref_piece := j_okT_of P_Ref_piece okC_all (by decide +kernel)
set_option maxRecDepth 100000 in
theorem ok_Ref_arrived : j_okT m_Ref_arrived := j_okT_of P_Ref_arrived okC_all (by decide +kernel)
set_option maxRecDepth 100000 in
theorem ok_Ref_ended : j_okT m_Ref_ended := j_okT_of P_Ref_ended okC_all (by decide +kernel)
