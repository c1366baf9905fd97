section
theorem zk_methodLink : (tables_1.filter (fun w => match w with | .methodLink .. => true | _ => false)).all goodWord = true := by decide +kernel
theorem zk_code : (tables_1.filter (fun w => match w with | .code .. => true | _ => false)).all goodWord = true := by decide +kernel
theorem zk_instanceMethod : (tables_1.filter (fun w => match w with | .instanceMethod .. => true | _ => false)).all goodWord = true := by decide +kernel
theorem zk_selects : (tables_1.filter (fun w => match w with | .selects .. => true | _ => false)).all goodWord = true := by decide +kernel
theorem zk_fieldLink : (tables_1.filter (fun w => match w with | .fieldLink .. => true | _ => false)).all goodWord = true := by decide +kernel
theorem zk_soleField : (tables_1.filter (fun w => match w with | .soleField .. => true | _ => false)).all goodWord = true := by decide +kernel
theorem zk_privateMethod : (tables_1.filter (fun w => match w with | .privateMethod .. => true | _ => false)).all goodWord = true := by decide +kernel
theorem zk_laysFinal : (tables_1.filter (fun w => match w with | .laysFinal .. => true | _ => false)).all goodWord = true := by decide +kernel
theorem zk_lays : (tables_1.filter (fun w => match w with | .lays .. => true | _ => false)).all goodWord = true := by decide +kernel
theorem zk_constant : (tables_1.filter (fun w => match w with | .constant .. => true | _ => false)).all goodWord = true := by decide +kernel
theorem zk_static : (tables_1.filter (fun w => match w with | .static .. => true | _ => false)).all goodWord = true := by decide +kernel
theorem zk_initialized : (tables_1.filter (fun w => match w with | .initialized .. => true | _ => false)).all goodWord = true := by decide +kernel
theorem zk_classLink : (tables_1.filter (fun w => match w with | .classLink .. => true | _ => false)).all goodWord = true := by decide +kernel
theorem zk_instantiable : (tables_1.filter (fun w => match w with | .instantiable .. => true | _ => false)).all goodWord = true := by decide +kernel
theorem zk_superclass : (tables_1.filter (fun w => match w with | .superclass .. => true | _ => false)).all goodWord = true := by decide +kernel
theorem zk_methodLinkNest : (tables_1.filter (fun w => match w with | .methodLinkNest .. => true | _ => false)).all goodWord = true := by decide +kernel
theorem zk_laysStatic : (tables_1.filter (fun w => match w with | .laysStatic .. => true | _ => false)).all goodWord = true := by decide +kernel
theorem zk_arrayOver : (tables_1.filter (fun w => match w with | .arrayOver .. => true | _ => false)).all goodWord = true := by decide +kernel
theorem zk_fieldLinkNest : (tables_1.filter (fun w => match w with | .fieldLinkNest .. => true | _ => false)).all goodWord = true := by decide +kernel
theorem zk_arrayClass : (tables_1.filter (fun w => match w with | .arrayClass .. => true | _ => false)).all goodWord = true := by decide +kernel
theorem zk_native : (tables_1.filter (fun w => match w with | .native .. => true | _ => false)).all goodWord = true := by decide +kernel
theorem zlen : tables_1.length = 995 := by decide +kernel
end
