set_option maxRecDepth 100000 in
theorem tt_a : (lw_tbl.filter (fun w => !goodWord w)).all (fun w => match w with | .stringRef _ _ _ => true | _ => false) = true := by decide +kernel
set_option maxRecDepth 100000 in
theorem tt_b : (lw_tbl.filter (fun w => !goodWord w)).all (fun w => match w with | .stringRef _ _ _ => true | .castable _ _ => true | .selects _ _ _ => true | _ => false) = true := by decide +kernel
set_option maxRecDepth 100000 in
theorem tt_c : (lw_tbl.filter (fun w => !goodWord w)).all (fun w => match w with | .initialized _  => true | .stringRef _ _ _ => true | .arrayOver _ => true | .constant _ _ _ => true | .constantLong _ _ _ => true | _ => false) = true := by decide +kernel
set_option maxRecDepth 100000 in
theorem tt_d : (lw_tbl.filter (fun w => !goodWord w)).all (fun w => match w with | .stringRef _ _ _ => true | .declares .. => true | .superclass .. => true | .castable .. => true | .soleField .. => true | .sameField .. => true | .sameMethod .. => true | _ => false) = true := by decide +kernel
